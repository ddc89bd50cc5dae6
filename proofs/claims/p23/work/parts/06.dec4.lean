theorem dL_cell_0 : decode cL_cell 0 = .ok (.iload_n 1, 1) := by decide +kernel
theorem dL_cell_1 : decode cL_cell 1 = .ok (.aload_n 0, 1) := by decide +kernel
theorem dL_cell_2 : decode cL_cell 2 = .ok (.arraylength, 1) := by decide +kernel
theorem dL_cell_3 : decode cL_cell 3 = .ok (.if_icmp .ge 9, 3) := by decide +kernel
theorem dL_cell_6 : decode cL_cell 6 = .ok (.aload_n 0, 1) := by decide +kernel
theorem dL_cell_7 : decode cL_cell 7 = .ok (.iload_n 1, 1) := by decide +kernel
theorem dL_cell_8 : decode cL_cell 8 = .ok (.iaload, 1) := by decide +kernel
theorem dL_cell_9 : decode cL_cell 9 = .ok (.goto 11, 3) := by decide +kernel
theorem dL_cell_12 : decode cL_cell 12 = .ok (.ldc 7, 2) := by decide +kernel
theorem dL_cell_14 : decode cL_cell 14 = .ok (.iload_n 1, 1) := by decide +kernel
theorem dL_cell_15 : decode cL_cell 15 = .ok (.sipush 929, 3) := by decide +kernel
theorem dL_cell_18 : decode cL_cell 18 = .ok (.iadd, 1) := by decide +kernel
theorem dL_cell_19 : decode cL_cell 19 = .ok (.imul, 1) := by decide +kernel
theorem dL_cell_20 : decode cL_cell 20 = .ok (.ireturn, 1) := by decide +kernel
theorem dL_up_0 : decode cL_up 0 = .ok (.iload_n 0, 1) := by decide +kernel
theorem dL_up_1 : decode cL_up 1 = .ok (.ldc 8, 2) := by decide +kernel
theorem dL_up_3 : decode cL_up 3 = .ok (.iand, 1) := by decide +kernel
theorem dL_up_4 : decode cL_up 4 = .ok (.iload_n 1, 1) := by decide +kernel
theorem dL_up_5 : decode cL_up 5 = .ok (.irem, 1) := by decide +kernel
theorem dL_up_6 : decode cL_up 6 = .ok (.ireturn, 1) := by decide +kernel
theorem dL_isStep_0 : decode cL_isStep 0 = .ok (.iload_n 3, 1) := by decide +kernel
theorem dL_isStep_1 : decode cL_isStep 1 = .ok (.iconst 4, 1) := by decide +kernel
theorem dL_isStep_2 : decode cL_isStep 2 = .ok (.ishr, 1) := by decide +kernel
theorem dL_isStep_3 : decode cL_isStep 3 = .ok (.istore 5, 2) := by decide +kernel
theorem dL_isStep_5 : decode cL_isStep 5 = .ok (.aload_n 0, 1) := by decide +kernel
theorem dL_isStep_6 : decode cL_isStep 6 = .ok (.iconst 0, 1) := by decide +kernel
theorem dL_isStep_7 : decode cL_isStep 7 = .ok (.invokevirtual 9, 3) := by decide +kernel
theorem dL_isStep_10 : decode cL_isStep 10 = .ok (.istore 6, 2) := by decide +kernel
theorem dL_isStep_12 : decode cL_isStep 12 = .ok (.iload 4, 2) := by decide +kernel
theorem dL_isStep_14 : decode cL_isStep 14 = .ok (.iconst 5, 1) := by decide +kernel
theorem dL_isStep_15 : decode cL_isStep 15 = .ok (.invokestatic 15, 3) := by decide +kernel
theorem dL_isStep_18 : decode cL_isStep 18 = .ok (.ifCond .ne 7, 3) := by decide +kernel
theorem dL_isStep_21 : decode cL_isStep 21 = .ok (.iconst 0, 1) := by decide +kernel
theorem dL_isStep_22 : decode cL_isStep 22 = .ok (.goto 12, 3) := by decide +kernel
theorem dL_isStep_25 : decode cL_isStep 25 = .ok (.iload 4, 2) := by decide +kernel
theorem dL_isStep_27 : decode cL_isStep 27 = .ok (.iconst 3, 1) := by decide +kernel
theorem dL_isStep_28 : decode cL_isStep 28 = .ok (.ishr, 1) := by decide +kernel
theorem dL_isStep_29 : decode cL_isStep 29 = .ok (.bipush 64, 2) := by decide +kernel
theorem dL_isStep_31 : decode cL_isStep 31 = .ok (.invokestatic 15, 3) := by decide +kernel
theorem dL_isStep_34 : decode cL_isStep 34 = .ok (.istore 7, 2) := by decide +kernel
theorem dL_isStep_36 : decode cL_isStep 36 = .ok (.iload 4, 2) := by decide +kernel
theorem dL_isStep_38 : decode cL_isStep 38 = .ok (.bipush 9, 2) := by decide +kernel
theorem dL_isStep_40 : decode cL_isStep 40 = .ok (.ishr, 1) := by decide +kernel
theorem dL_isStep_41 : decode cL_isStep 41 = .ok (.iconst 4, 1) := by decide +kernel
theorem dL_isStep_42 : decode cL_isStep 42 = .ok (.invokestatic 15, 3) := by decide +kernel
theorem dL_isStep_45 : decode cL_isStep 45 = .ok (.ifCond .ne 8, 3) := by decide +kernel
theorem dL_isStep_48 : decode cL_isStep 48 = .ok (.bipush 64, 2) := by decide +kernel
theorem dL_isStep_50 : decode cL_isStep 50 = .ok (.goto 21, 3) := by decide +kernel
theorem dL_isStep_53 : decode cL_isStep 53 = .ok (.iload 7, 2) := by decide +kernel
theorem dL_isStep_55 : decode cL_isStep 55 = .ok (.iconst 1, 1) := by decide +kernel
theorem dL_isStep_56 : decode cL_isStep 56 = .ok (.iadd, 1) := by decide +kernel
theorem dL_isStep_57 : decode cL_isStep 57 = .ok (.iload 4, 2) := by decide +kernel
theorem dL_isStep_59 : decode cL_isStep 59 = .ok (.bipush 11, 2) := by decide +kernel
theorem dL_isStep_61 : decode cL_isStep 61 = .ok (.ishr, 1) := by decide +kernel
theorem dL_isStep_62 : decode cL_isStep 62 = .ok (.bipush 64, 2) := by decide +kernel
theorem dL_isStep_64 : decode cL_isStep 64 = .ok (.iload 7, 2) := by decide +kernel
theorem dL_isStep_66 : decode cL_isStep 66 = .ok (.isub, 1) := by decide +kernel
theorem dL_isStep_67 : decode cL_isStep 67 = .ok (.invokestatic 15, 3) := by decide +kernel
theorem dL_isStep_70 : decode cL_isStep 70 = .ok (.iadd, 1) := by decide +kernel
theorem dL_isStep_71 : decode cL_isStep 71 = .ok (.istore 8, 2) := by decide +kernel
theorem dL_isStep_73 : decode cL_isStep 73 = .ok (.iload 5, 2) := by decide +kernel
theorem dL_isStep_75 : decode cL_isStep 75 = .ok (.iload 6, 2) := by decide +kernel
theorem dL_isStep_77 : decode cL_isStep 77 = .ok (.iconst 1, 1) := by decide +kernel
theorem dL_isStep_78 : decode cL_isStep 78 = .ok (.iadd, 1) := by decide +kernel
theorem dL_isStep_79 : decode cL_isStep 79 = .ok (.invokestatic 15, 3) := by decide +kernel
theorem dL_isStep_82 : decode cL_isStep 82 = .ok (.istore 9, 2) := by decide +kernel
theorem dL_isStep_84 : decode cL_isStep 84 = .ok (.iload_n 3, 1) := by decide +kernel
theorem dL_isStep_85 : decode cL_isStep 85 = .ok (.bipush 12, 2) := by decide +kernel
theorem dL_isStep_87 : decode cL_isStep 87 = .ok (.invokestatic 15, 3) := by decide +kernel
theorem dL_isStep_90 : decode cL_isStep 90 = .ok (.tableswitch 390 0 10 #[58, 58, 58, 58, 58, 58, 189, 239, 239, 293, 364], 58) := by decide +kernel
theorem dL_isStep_148 : decode cL_isStep 148 = .ok (.iload 5, 2) := by decide +kernel
theorem dL_isStep_150 : decode cL_isStep 150 = .ok (.bipush 8, 2) := by decide +kernel
theorem dL_isStep_152 : decode cL_isStep 152 = .ok (.invokestatic 15, 3) := by decide +kernel
theorem dL_isStep_155 : decode cL_isStep 155 = .ok (.istore 10, 2) := by decide +kernel
theorem dL_isStep_157 : decode cL_isStep 157 = .ok (.iload 5, 2) := by decide +kernel
theorem dL_isStep_159 : decode cL_isStep 159 = .ok (.iconst 3, 1) := by decide +kernel
theorem dL_isStep_160 : decode cL_isStep 160 = .ok (.ishr, 1) := by decide +kernel
theorem dL_isStep_161 : decode cL_isStep 161 = .ok (.iconst 4, 1) := by decide +kernel
theorem dL_isStep_162 : decode cL_isStep 162 = .ok (.invokestatic 15, 3) := by decide +kernel
theorem dL_isStep_165 : decode cL_isStep 165 = .ok (.ifCond .ne 15, 3) := by decide +kernel
theorem dL_isStep_168 : decode cL_isStep 168 = .ok (.iload 5, 2) := by decide +kernel
theorem dL_isStep_170 : decode cL_isStep 170 = .ok (.iconst 5, 1) := by decide +kernel
theorem dL_isStep_171 : decode cL_isStep 171 = .ok (.ishr, 1) := by decide +kernel
theorem dL_isStep_172 : decode cL_isStep 172 = .ok (.bipush 16, 2) := by decide +kernel
theorem dL_isStep_174 : decode cL_isStep 174 = .ok (.invokestatic 15, 3) := by decide +kernel
theorem dL_isStep_177 : decode cL_isStep 177 = .ok (.goto 12, 3) := by decide +kernel
theorem dL_isStep_180 : decode cL_isStep 180 = .ok (.iload 5, 2) := by decide +kernel
theorem dL_isStep_182 : decode cL_isStep 182 = .ok (.iconst 5, 1) := by decide +kernel
theorem dL_isStep_183 : decode cL_isStep 183 = .ok (.ishr, 1) := by decide +kernel
theorem dL_isStep_184 : decode cL_isStep 184 = .ok (.bipush 8, 2) := by decide +kernel
theorem dL_isStep_186 : decode cL_isStep 186 = .ok (.invokestatic 15, 3) := by decide +kernel
theorem dL_isStep_189 : decode cL_isStep 189 = .ok (.istore 11, 2) := by decide +kernel
theorem dL_isStep_191 : decode cL_isStep 191 = .ok (.aload_n 0, 1) := by decide +kernel
theorem dL_isStep_192 : decode cL_isStep 192 = .ok (.iload 10, 2) := by decide +kernel
theorem dL_isStep_194 : decode cL_isStep 194 = .ok (.iload 11, 2) := by decide +kernel
theorem dL_isStep_196 : decode cL_isStep 196 = .ok (.iload 7, 2) := by decide +kernel
theorem dL_isStep_198 : decode cL_isStep 198 = .ok (.iload 8, 2) := by decide +kernel
theorem dL_isStep_200 : decode cL_isStep 200 = .ok (.invokevirtual 21, 3) := by decide +kernel
theorem dL_isStep_203 : decode cL_isStep 203 = .ok (.istore 12, 2) := by decide +kernel
theorem dL_isStep_205 : decode cL_isStep 205 = .ok (.iload 12, 2) := by decide +kernel
theorem dL_isStep_207 : decode cL_isStep 207 = .ok (.aload_n 1, 1) := by decide +kernel
theorem dL_isStep_208 : decode cL_isStep 208 = .ok (.iload 10, 2) := by decide +kernel
theorem dL_isStep_210 : decode cL_isStep 210 = .ok (.iload_n 2, 1) := by decide +kernel
theorem dL_isStep_211 : decode cL_isStep 211 = .ok (.ixor, 1) := by decide +kernel
theorem dL_isStep_212 : decode cL_isStep 212 = .ok (.iload 11, 2) := by decide +kernel
theorem dL_isStep_214 : decode cL_isStep 214 = .ok (.iload_n 2, 1) := by decide +kernel
theorem dL_isStep_215 : decode cL_isStep 215 = .ok (.ixor, 1) := by decide +kernel
theorem dL_isStep_216 : decode cL_isStep 216 = .ok (.bipush 64, 2) := by decide +kernel
theorem dL_isStep_218 : decode cL_isStep 218 = .ok (.iload 8, 2) := by decide +kernel
theorem dL_isStep_220 : decode cL_isStep 220 = .ok (.isub, 1) := by decide +kernel
theorem dL_isStep_221 : decode cL_isStep 221 = .ok (.bipush 64, 2) := by decide +kernel
theorem dL_isStep_223 : decode cL_isStep 223 = .ok (.iload 7, 2) := by decide +kernel
theorem dL_isStep_225 : decode cL_isStep 225 = .ok (.isub, 1) := by decide +kernel
theorem dL_isStep_226 : decode cL_isStep 226 = .ok (.invokevirtual 21, 3) := by decide +kernel
theorem dL_isStep_229 : decode cL_isStep 229 = .ok (.if_icmp .ne 48, 3) := by decide +kernel
theorem dL_isStep_232 : decode cL_isStep 232 = .ok (.iload 10, 2) := by decide +kernel
theorem dL_isStep_234 : decode cL_isStep 234 = .ok (.iload 11, 2) := by decide +kernel
theorem dL_isStep_236 : decode cL_isStep 236 = .ok (.if_icmp .ne 13, 3) := by decide +kernel
theorem dL_isStep_239 : decode cL_isStep 239 = .ok (.iload 12, 2) := by decide +kernel
theorem dL_isStep_241 : decode cL_isStep 241 = .ok (.bipush (-2), 2) := by decide +kernel
theorem dL_isStep_243 : decode cL_isStep 243 = .ok (.if_icmp .ne 34, 3) := by decide +kernel
theorem dL_isStep_246 : decode cL_isStep 246 = .ok (.goto 27, 3) := by decide +kernel
theorem dL_isStep_249 : decode cL_isStep 249 = .ok (.iload 6, 2) := by decide +kernel
theorem dL_isStep_251 : decode cL_isStep 251 = .ok (.bipush 40, 2) := by decide +kernel
theorem dL_isStep_253 : decode cL_isStep 253 = .ok (.if_icmp .ne 13, 3) := by decide +kernel
theorem dL_isStep_256 : decode cL_isStep 256 = .ok (.iload 12, 2) := by decide +kernel
theorem dL_isStep_258 : decode cL_isStep 258 = .ok (.bipush (-3), 2) := by decide +kernel
theorem dL_isStep_260 : decode cL_isStep 260 = .ok (.if_icmp .ne 17, 3) := by decide +kernel
theorem dL_isStep_263 : decode cL_isStep 263 = .ok (.goto 10, 3) := by decide +kernel
theorem dL_isStep_266 : decode cL_isStep 266 = .ok (.iload 12, 2) := by decide +kernel
theorem dL_isStep_268 : decode cL_isStep 268 = .ok (.iload 6, 2) := by decide +kernel
theorem dL_isStep_270 : decode cL_isStep 270 = .ok (.if_icmp .ne 7, 3) := by decide +kernel
theorem dL_isStep_273 : decode cL_isStep 273 = .ok (.iconst 1, 1) := by decide +kernel
theorem dL_isStep_274 : decode cL_isStep 274 = .ok (.goto 4, 3) := by decide +kernel
theorem dL_isStep_277 : decode cL_isStep 277 = .ok (.iconst 0, 1) := by decide +kernel
theorem dL_isStep_278 : decode cL_isStep 278 = .ok (.ireturn, 1) := by decide +kernel
theorem dL_isStep_279 : decode cL_isStep 279 = .ok (.aload_n 0, 1) := by decide +kernel
theorem dL_isStep_280 : decode cL_isStep 280 = .ok (.iload 9, 2) := by decide +kernel
theorem dL_isStep_282 : decode cL_isStep 282 = .ok (.invokevirtual 25, 3) := by decide +kernel
theorem dL_isStep_285 : decode cL_isStep 285 = .ok (.istore 10, 2) := by decide +kernel
theorem dL_isStep_287 : decode cL_isStep 287 = .ok (.iload 10, 2) := by decide +kernel
theorem dL_isStep_289 : decode cL_isStep 289 = .ok (.aload_n 1, 1) := by decide +kernel
theorem dL_isStep_290 : decode cL_isStep 290 = .ok (.iload 9, 2) := by decide +kernel
theorem dL_isStep_292 : decode cL_isStep 292 = .ok (.invokevirtual 25, 3) := by decide +kernel
theorem dL_isStep_295 : decode cL_isStep 295 = .ok (.if_icmp .ne 32, 3) := by decide +kernel
theorem dL_isStep_298 : decode cL_isStep 298 = .ok (.iload 9, 2) := by decide +kernel
theorem dL_isStep_300 : decode cL_isStep 300 = .ok (.iload 6, 2) := by decide +kernel
theorem dL_isStep_302 : decode cL_isStep 302 = .ok (.if_icmp .ne 12, 3) := by decide +kernel
theorem dL_isStep_305 : decode cL_isStep 305 = .ok (.iload 10, 2) := by decide +kernel
theorem dL_isStep_307 : decode cL_isStep 307 = .ok (.iconst (-1), 1) := by decide +kernel
theorem dL_isStep_308 : decode cL_isStep 308 = .ok (.if_icmp .ne 19, 3) := by decide +kernel
theorem dL_isStep_311 : decode cL_isStep 311 = .ok (.goto 12, 3) := by decide +kernel
theorem dL_isStep_314 : decode cL_isStep 314 = .ok (.iload 10, 2) := by decide +kernel
theorem dL_isStep_316 : decode cL_isStep 316 = .ok (.iload 6, 2) := by decide +kernel
theorem dL_isStep_318 : decode cL_isStep 318 = .ok (.iconst 1, 1) := by decide +kernel
theorem dL_isStep_319 : decode cL_isStep 319 = .ok (.isub, 1) := by decide +kernel
theorem dL_isStep_320 : decode cL_isStep 320 = .ok (.if_icmp .ne 7, 3) := by decide +kernel
theorem dL_isStep_323 : decode cL_isStep 323 = .ok (.iconst 1, 1) := by decide +kernel
theorem dL_isStep_324 : decode cL_isStep 324 = .ok (.goto 4, 3) := by decide +kernel
theorem dL_isStep_327 : decode cL_isStep 327 = .ok (.iconst 0, 1) := by decide +kernel
theorem dL_isStep_328 : decode cL_isStep 328 = .ok (.ireturn, 1) := by decide +kernel
theorem dL_isStep_329 : decode cL_isStep 329 = .ok (.aload_n 0, 1) := by decide +kernel
theorem dL_isStep_330 : decode cL_isStep 330 = .ok (.iload 9, 2) := by decide +kernel
theorem dL_isStep_332 : decode cL_isStep 332 = .ok (.iload 7, 2) := by decide +kernel
theorem dL_isStep_334 : decode cL_isStep 334 = .ok (.iload 8, 2) := by decide +kernel
theorem dL_isStep_336 : decode cL_isStep 336 = .ok (.invokevirtual 28, 3) := by decide +kernel
theorem dL_isStep_339 : decode cL_isStep 339 = .ok (.istore 10, 2) := by decide +kernel
theorem dL_isStep_341 : decode cL_isStep 341 = .ok (.iload 10, 2) := by decide +kernel
theorem dL_isStep_343 : decode cL_isStep 343 = .ok (.aload_n 1, 1) := by decide +kernel
theorem dL_isStep_344 : decode cL_isStep 344 = .ok (.iload 9, 2) := by decide +kernel
theorem dL_isStep_346 : decode cL_isStep 346 = .ok (.bipush 64, 2) := by decide +kernel
theorem dL_isStep_348 : decode cL_isStep 348 = .ok (.iload 8, 2) := by decide +kernel
theorem dL_isStep_350 : decode cL_isStep 350 = .ok (.isub, 1) := by decide +kernel
theorem dL_isStep_351 : decode cL_isStep 351 = .ok (.bipush 64, 2) := by decide +kernel
theorem dL_isStep_353 : decode cL_isStep 353 = .ok (.iload 7, 2) := by decide +kernel
theorem dL_isStep_355 : decode cL_isStep 355 = .ok (.isub, 1) := by decide +kernel
theorem dL_isStep_356 : decode cL_isStep 356 = .ok (.invokevirtual 28, 3) := by decide +kernel
theorem dL_isStep_359 : decode cL_isStep 359 = .ok (.if_icmp .ne 22, 3) := by decide +kernel
theorem dL_isStep_362 : decode cL_isStep 362 = .ok (.iload 10, 2) := by decide +kernel
theorem dL_isStep_364 : decode cL_isStep 364 = .ok (.ifCond .lt 13, 3) := by decide +kernel
theorem dL_isStep_367 : decode cL_isStep 367 = .ok (.iload 10, 2) := by decide +kernel
theorem dL_isStep_369 : decode cL_isStep 369 = .ok (.iload 8, 2) := by decide +kernel
theorem dL_isStep_371 : decode cL_isStep 371 = .ok (.iload 7, 2) := by decide +kernel
theorem dL_isStep_373 : decode cL_isStep 373 = .ok (.isub, 1) := by decide +kernel
theorem dL_isStep_374 : decode cL_isStep 374 = .ok (.if_icmp .ne 7, 3) := by decide +kernel
theorem dL_isStep_377 : decode cL_isStep 377 = .ok (.iconst 1, 1) := by decide +kernel
theorem dL_isStep_378 : decode cL_isStep 378 = .ok (.goto 4, 3) := by decide +kernel
theorem dL_isStep_381 : decode cL_isStep 381 = .ok (.iconst 0, 1) := by decide +kernel
theorem dL_isStep_382 : decode cL_isStep 382 = .ok (.ireturn, 1) := by decide +kernel
theorem dL_isStep_383 : decode cL_isStep 383 = .ok (.aload_n 0, 1) := by decide +kernel
theorem dL_isStep_384 : decode cL_isStep 384 = .ok (.iload 7, 2) := by decide +kernel
theorem dL_isStep_386 : decode cL_isStep 386 = .ok (.iconst 0, 1) := by decide +kernel
theorem dL_isStep_387 : decode cL_isStep 387 = .ok (.invokevirtual 32, 3) := by decide +kernel
theorem dL_isStep_390 : decode cL_isStep 390 = .ok (.istore 10, 2) := by decide +kernel
theorem dL_isStep_392 : decode cL_isStep 392 = .ok (.aload_n 0, 1) := by decide +kernel
theorem dL_isStep_393 : decode cL_isStep 393 = .ok (.iload 7, 2) := by decide +kernel
theorem dL_isStep_395 : decode cL_isStep 395 = .ok (.invokevirtual 35, 3) := by decide +kernel
theorem dL_isStep_398 : decode cL_isStep 398 = .ok (.istore 11, 2) := by decide +kernel
theorem dL_isStep_400 : decode cL_isStep 400 = .ok (.iload 11, 2) := by decide +kernel
theorem dL_isStep_402 : decode cL_isStep 402 = .ok (.aload_n 1, 1) := by decide +kernel
theorem dL_isStep_403 : decode cL_isStep 403 = .ok (.bipush 63, 2) := by decide +kernel
theorem dL_isStep_405 : decode cL_isStep 405 = .ok (.iload 7, 2) := by decide +kernel
theorem dL_isStep_407 : decode cL_isStep 407 = .ok (.isub, 1) := by decide +kernel
theorem dL_isStep_408 : decode cL_isStep 408 = .ok (.invokevirtual 35, 3) := by decide +kernel
theorem dL_isStep_411 : decode cL_isStep 411 = .ok (.if_icmp .ne 41, 3) := by decide +kernel
theorem dL_isStep_414 : decode cL_isStep 414 = .ok (.iload 10, 2) := by decide +kernel
theorem dL_isStep_416 : decode cL_isStep 416 = .ok (.ifCond .ne 13, 3) := by decide +kernel
theorem dL_isStep_419 : decode cL_isStep 419 = .ok (.iload 11, 2) := by decide +kernel
theorem dL_isStep_421 : decode cL_isStep 421 = .ok (.bipush (-5), 2) := by decide +kernel
theorem dL_isStep_423 : decode cL_isStep 423 = .ok (.if_icmp .ne 29, 3) := by decide +kernel
theorem dL_isStep_426 : decode cL_isStep 426 = .ok (.goto 22, 3) := by decide +kernel
theorem dL_isStep_429 : decode cL_isStep 429 = .ok (.iload 11, 2) := by decide +kernel
theorem dL_isStep_431 : decode cL_isStep 431 = .ok (.iload 10, 2) := by decide +kernel
theorem dL_isStep_433 : decode cL_isStep 433 = .ok (.if_icmp .ne 19, 3) := by decide +kernel
theorem dL_isStep_436 : decode cL_isStep 436 = .ok (.aload_n 0, 1) := by decide +kernel
theorem dL_isStep_437 : decode cL_isStep 437 = .ok (.iload 7, 2) := by decide +kernel
theorem dL_isStep_439 : decode cL_isStep 439 = .ok (.iconst 1, 1) := by decide +kernel
theorem dL_isStep_440 : decode cL_isStep 440 = .ok (.invokevirtual 32, 3) := by decide +kernel
theorem dL_isStep_443 : decode cL_isStep 443 = .ok (.bipush 16, 2) := by decide +kernel
theorem dL_isStep_445 : decode cL_isStep 445 = .ok (.if_icmp .ne 7, 3) := by decide +kernel
theorem dL_isStep_448 : decode cL_isStep 448 = .ok (.iconst 1, 1) := by decide +kernel
theorem dL_isStep_449 : decode cL_isStep 449 = .ok (.goto 4, 3) := by decide +kernel
theorem dL_isStep_452 : decode cL_isStep 452 = .ok (.iconst 0, 1) := by decide +kernel
theorem dL_isStep_453 : decode cL_isStep 453 = .ok (.ireturn, 1) := by decide +kernel
theorem dL_isStep_454 : decode cL_isStep 454 = .ok (.aload_n 0, 1) := by decide +kernel
theorem dL_isStep_455 : decode cL_isStep 455 = .ok (.bipush 7, 2) := by decide +kernel
theorem dL_isStep_457 : decode cL_isStep 457 = .ok (.invokevirtual 9, 3) := by decide +kernel
theorem dL_isStep_460 : decode cL_isStep 460 = .ok (.ifCond .eq 14, 3) := by decide +kernel
theorem dL_isStep_463 : decode cL_isStep 463 = .ok (.aload_n 0, 1) := by decide +kernel
theorem dL_isStep_464 : decode cL_isStep 464 = .ok (.invokevirtual 38, 3) := by decide +kernel
theorem dL_isStep_467 : decode cL_isStep 467 = .ok (.aload_n 1, 1) := by decide +kernel
theorem dL_isStep_468 : decode cL_isStep 468 = .ok (.invokevirtual 38, 3) := by decide +kernel
theorem dL_isStep_471 : decode cL_isStep 471 = .ok (.if_icmp .ne 7, 3) := by decide +kernel
theorem dL_isStep_474 : decode cL_isStep 474 = .ok (.iconst 1, 1) := by decide +kernel
theorem dL_isStep_475 : decode cL_isStep 475 = .ok (.goto 4, 3) := by decide +kernel
theorem dL_isStep_478 : decode cL_isStep 478 = .ok (.iconst 0, 1) := by decide +kernel
theorem dL_isStep_479 : decode cL_isStep 479 = .ok (.ireturn, 1) := by decide +kernel
theorem dL_isStep_480 : decode cL_isStep 480 = .ok (.iload 5, 2) := by decide +kernel
theorem dL_isStep_482 : decode cL_isStep 482 = .ok (.iconst 3, 1) := by decide +kernel
theorem dL_isStep_483 : decode cL_isStep 483 = .ok (.invokestatic 15, 3) := by decide +kernel
theorem dL_isStep_486 : decode cL_isStep 486 = .ok (.ifCond .gt 32, 3) := by decide +kernel
theorem dL_isStep_489 : decode cL_isStep 489 = .ok (.aload_n 0, 1) := by decide +kernel
theorem dL_isStep_490 : decode cL_isStep 490 = .ok (.invokevirtual 42, 3) := by decide +kernel
theorem dL_isStep_493 : decode cL_isStep 493 = .ok (.aload_n 1, 1) := by decide +kernel
theorem dL_isStep_494 : decode cL_isStep 494 = .ok (.invokevirtual 42, 3) := by decide +kernel
theorem dL_isStep_497 : decode cL_isStep 497 = .ok (.if_icmp .ne 25, 3) := by decide +kernel
theorem dL_isStep_500 : decode cL_isStep 500 = .ok (.aload_n 0, 1) := by decide +kernel
theorem dL_isStep_501 : decode cL_isStep 501 = .ok (.invokevirtual 45, 3) := by decide +kernel
theorem dL_isStep_504 : decode cL_isStep 504 = .ok (.iload 6, 2) := by decide +kernel
theorem dL_isStep_506 : decode cL_isStep 506 = .ok (.if_icmp .ne 16, 3) := by decide +kernel
theorem dL_isStep_509 : decode cL_isStep 509 = .ok (.aload_n 1, 1) := by decide +kernel
theorem dL_isStep_510 : decode cL_isStep 510 = .ok (.invokevirtual 45, 3) := by decide +kernel
theorem dL_isStep_513 : decode cL_isStep 513 = .ok (.iload 6, 2) := by decide +kernel
theorem dL_isStep_515 : decode cL_isStep 515 = .ok (.if_icmp .ne 7, 3) := by decide +kernel
theorem dL_isStep_518 : decode cL_isStep 518 = .ok (.iconst 1, 1) := by decide +kernel
theorem dL_isStep_519 : decode cL_isStep 519 = .ok (.goto 4, 3) := by decide +kernel
theorem dL_isStep_522 : decode cL_isStep 522 = .ok (.iconst 0, 1) := by decide +kernel
theorem dL_isStep_523 : decode cL_isStep 523 = .ok (.ireturn, 1) := by decide +kernel
theorem dL_there_0 : decode cL_there 0 = .ok (.iconst 0, 1) := by decide +kernel
theorem dL_there_1 : decode cL_there 1 = .ok (.istore_n 2, 1) := by decide +kernel
theorem dL_there_2 : decode cL_there 2 = .ok (.iconst 0, 1) := by decide +kernel
theorem dL_there_3 : decode cL_there 3 = .ok (.istore_n 3, 1) := by decide +kernel
theorem dL_there_4 : decode cL_there 4 = .ok (.iload_n 3, 1) := by decide +kernel
theorem dL_there_5 : decode cL_there 5 = .ok (.bipush 16, 2) := by decide +kernel
theorem dL_there_7 : decode cL_there 7 = .ok (.if_icmp .ge 21, 3) := by decide +kernel
theorem dL_there_10 : decode cL_there 10 = .ok (.iload_n 2, 1) := by decide +kernel
theorem dL_there_11 : decode cL_there 11 = .ok (.iload_n 0, 1) := by decide +kernel
theorem dL_there_12 : decode cL_there 12 = .ok (.iload_n 3, 1) := by decide +kernel
theorem dL_there_13 : decode cL_there 13 = .ok (.ishr, 1) := by decide +kernel
theorem dL_there_14 : decode cL_there 14 = .ok (.iconst 1, 1) := by decide +kernel
theorem dL_there_15 : decode cL_there 15 = .ok (.iand, 1) := by decide +kernel
theorem dL_there_16 : decode cL_there 16 = .ok (.iload_n 3, 1) := by decide +kernel
theorem dL_there_17 : decode cL_there 17 = .ok (.iload_n 1, 1) := by decide +kernel
theorem dL_there_18 : decode cL_there 18 = .ok (.ixor, 1) := by decide +kernel
theorem dL_there_19 : decode cL_there 19 = .ok (.ishl, 1) := by decide +kernel
theorem dL_there_20 : decode cL_there 20 = .ok (.ior, 1) := by decide +kernel
theorem dL_there_21 : decode cL_there 21 = .ok (.istore_n 2, 1) := by decide +kernel
theorem dL_there_22 : decode cL_there 22 = .ok (.iinc 3 1, 3) := by decide +kernel
theorem dL_there_25 : decode cL_there 25 = .ok (.goto (-21), 3) := by decide +kernel
theorem dL_there_28 : decode cL_there 28 = .ok (.iload_n 2, 1) := by decide +kernel
theorem dL_there_29 : decode cL_there 29 = .ok (.ireturn, 1) := by decide +kernel
theorem dL_areAlike_0 : decode cL_areAlike 0 = .ok (.iconst 1, 1) := by decide +kernel
theorem dL_areAlike_1 : decode cL_areAlike 1 = .ok (.istore 4, 2) := by decide +kernel
theorem dL_areAlike_3 : decode cL_areAlike 3 = .ok (.iload_n 3, 1) := by decide +kernel
theorem dL_areAlike_4 : decode cL_areAlike 4 = .ok (.bipush 64, 2) := by decide +kernel
theorem dL_areAlike_6 : decode cL_areAlike 6 = .ok (.invokestatic 15, 3) := by decide +kernel
theorem dL_areAlike_9 : decode cL_areAlike 9 = .ok (.istore 5, 2) := by decide +kernel
theorem dL_areAlike_11 : decode cL_areAlike 11 = .ok (.iload_n 3, 1) := by decide +kernel
theorem dL_areAlike_12 : decode cL_areAlike 12 = .ok (.bipush 6, 2) := by decide +kernel
theorem dL_areAlike_14 : decode cL_areAlike 14 = .ok (.ishr, 1) := by decide +kernel
theorem dL_areAlike_15 : decode cL_areAlike 15 = .ok (.bipush 16, 2) := by decide +kernel
theorem dL_areAlike_17 : decode cL_areAlike 17 = .ok (.invokestatic 15, 3) := by decide +kernel
theorem dL_areAlike_20 : decode cL_areAlike 20 = .ok (.istore 6, 2) := by decide +kernel
theorem dL_areAlike_22 : decode cL_areAlike 22 = .ok (.iload_n 3, 1) := by decide +kernel
theorem dL_areAlike_23 : decode cL_areAlike 23 = .ok (.bipush 10, 2) := by decide +kernel
theorem dL_areAlike_25 : decode cL_areAlike 25 = .ok (.ishr, 1) := by decide +kernel
theorem dL_areAlike_26 : decode cL_areAlike 26 = .ok (.bipush 16, 2) := by decide +kernel
theorem dL_areAlike_28 : decode cL_areAlike 28 = .ok (.invokestatic 15, 3) := by decide +kernel
theorem dL_areAlike_31 : decode cL_areAlike 31 = .ok (.istore 7, 2) := by decide +kernel
theorem dL_areAlike_33 : decode cL_areAlike 33 = .ok (.iconst 0, 1) := by decide +kernel
theorem dL_areAlike_34 : decode cL_areAlike 34 = .ok (.istore 8, 2) := by decide +kernel
theorem dL_areAlike_36 : decode cL_areAlike 36 = .ok (.iload 8, 2) := by decide +kernel
theorem dL_areAlike_38 : decode cL_areAlike 38 = .ok (.bipush 8, 2) := by decide +kernel
theorem dL_areAlike_40 : decode cL_areAlike 40 = .ok (.if_icmp .ge 36, 3) := by decide +kernel
theorem dL_areAlike_43 : decode cL_areAlike 43 = .ok (.iload 4, 2) := by decide +kernel
theorem dL_areAlike_45 : decode cL_areAlike 45 = .ok (.ifCond .eq 22, 3) := by decide +kernel
theorem dL_areAlike_48 : decode cL_areAlike 48 = .ok (.aload_n 0, 1) := by decide +kernel
theorem dL_areAlike_49 : decode cL_areAlike 49 = .ok (.iload 8, 2) := by decide +kernel
theorem dL_areAlike_51 : decode cL_areAlike 51 = .ok (.invokevirtual 9, 3) := by decide +kernel
theorem dL_areAlike_54 : decode cL_areAlike 54 = .ok (.aload_n 1, 1) := by decide +kernel
theorem dL_areAlike_55 : decode cL_areAlike 55 = .ok (.iload 8, 2) := by decide +kernel
theorem dL_areAlike_57 : decode cL_areAlike 57 = .ok (.invokevirtual 9, 3) := by decide +kernel
theorem dL_areAlike_60 : decode cL_areAlike 60 = .ok (.if_icmp .ne 7, 3) := by decide +kernel
theorem dL_areAlike_63 : decode cL_areAlike 63 = .ok (.iconst 1, 1) := by decide +kernel
theorem dL_areAlike_64 : decode cL_areAlike 64 = .ok (.goto 4, 3) := by decide +kernel
theorem dL_areAlike_67 : decode cL_areAlike 67 = .ok (.iconst 0, 1) := by decide +kernel
theorem dL_areAlike_68 : decode cL_areAlike 68 = .ok (.istore 4, 2) := by decide +kernel
theorem dL_areAlike_70 : decode cL_areAlike 70 = .ok (.iinc 8 1, 3) := by decide +kernel
theorem dL_areAlike_73 : decode cL_areAlike 73 = .ok (.goto (-37), 3) := by decide +kernel
theorem dL_areAlike_76 : decode cL_areAlike 76 = .ok (.iconst 0, 1) := by decide +kernel
theorem dL_areAlike_77 : decode cL_areAlike 77 = .ok (.istore 8, 2) := by decide +kernel
theorem dL_areAlike_79 : decode cL_areAlike 79 = .ok (.iload 8, 2) := by decide +kernel
theorem dL_areAlike_81 : decode cL_areAlike 81 = .ok (.aload_n 0, 1) := by decide +kernel
theorem dL_areAlike_82 : decode cL_areAlike 82 = .ok (.iconst 0, 1) := by decide +kernel
theorem dL_areAlike_83 : decode cL_areAlike 83 = .ok (.invokevirtual 9, 3) := by decide +kernel
theorem dL_areAlike_86 : decode cL_areAlike 86 = .ok (.if_icmp .ge 155, 3) := by decide +kernel
theorem dL_areAlike_89 : decode cL_areAlike 89 = .ok (.iload 4, 2) := by decide +kernel
theorem dL_areAlike_91 : decode cL_areAlike 91 = .ok (.ifCond .eq 150, 3) := by decide +kernel
theorem dL_areAlike_94 : decode cL_areAlike 94 = .ok (.aload_n 0, 1) := by decide +kernel
theorem dL_areAlike_95 : decode cL_areAlike 95 = .ok (.iload 8, 2) := by decide +kernel
theorem dL_areAlike_97 : decode cL_areAlike 97 = .ok (.iconst 0, 1) := by decide +kernel
theorem dL_areAlike_98 : decode cL_areAlike 98 = .ok (.invokevirtual 48, 3) := by decide +kernel
theorem dL_areAlike_101 : decode cL_areAlike 101 = .ok (.aload_n 1, 1) := by decide +kernel
theorem dL_areAlike_102 : decode cL_areAlike 102 = .ok (.iload 8, 2) := by decide +kernel
theorem dL_areAlike_104 : decode cL_areAlike 104 = .ok (.iconst 0, 1) := by decide +kernel
theorem dL_areAlike_105 : decode cL_areAlike 105 = .ok (.invokevirtual 48, 3) := by decide +kernel
theorem dL_areAlike_108 : decode cL_areAlike 108 = .ok (.iload_n 2, 1) := by decide +kernel
theorem dL_areAlike_109 : decode cL_areAlike 109 = .ok (.ixor, 1) := by decide +kernel
theorem dL_areAlike_110 : decode cL_areAlike 110 = .ok (.if_icmp .ne 122, 3) := by decide +kernel
theorem dL_areAlike_113 : decode cL_areAlike 113 = .ok (.aload_n 0, 1) := by decide +kernel
theorem dL_areAlike_114 : decode cL_areAlike 114 = .ok (.iload 8, 2) := by decide +kernel
theorem dL_areAlike_116 : decode cL_areAlike 116 = .ok (.iconst 1, 1) := by decide +kernel
theorem dL_areAlike_117 : decode cL_areAlike 117 = .ok (.invokevirtual 48, 3) := by decide +kernel
theorem dL_areAlike_120 : decode cL_areAlike 120 = .ok (.aload_n 1, 1) := by decide +kernel
theorem dL_areAlike_121 : decode cL_areAlike 121 = .ok (.iload 8, 2) := by decide +kernel
theorem dL_areAlike_123 : decode cL_areAlike 123 = .ok (.iconst 1, 1) := by decide +kernel
theorem dL_areAlike_124 : decode cL_areAlike 124 = .ok (.invokevirtual 48, 3) := by decide +kernel
theorem dL_areAlike_127 : decode cL_areAlike 127 = .ok (.iload_n 2, 1) := by decide +kernel
theorem dL_areAlike_128 : decode cL_areAlike 128 = .ok (.ixor, 1) := by decide +kernel
theorem dL_areAlike_129 : decode cL_areAlike 129 = .ok (.if_icmp .ne 103, 3) := by decide +kernel
theorem dL_areAlike_132 : decode cL_areAlike 132 = .ok (.aload_n 0, 1) := by decide +kernel
theorem dL_areAlike_133 : decode cL_areAlike 133 = .ok (.iload 8, 2) := by decide +kernel
theorem dL_areAlike_135 : decode cL_areAlike 135 = .ok (.iconst 2, 1) := by decide +kernel
theorem dL_areAlike_136 : decode cL_areAlike 136 = .ok (.invokevirtual 48, 3) := by decide +kernel
theorem dL_areAlike_139 : decode cL_areAlike 139 = .ok (.bipush 64, 2) := by decide +kernel
theorem dL_areAlike_141 : decode cL_areAlike 141 = .ok (.aload_n 1, 1) := by decide +kernel
theorem dL_areAlike_142 : decode cL_areAlike 142 = .ok (.iload 8, 2) := by decide +kernel
theorem dL_areAlike_144 : decode cL_areAlike 144 = .ok (.iconst 3, 1) := by decide +kernel
theorem dL_areAlike_145 : decode cL_areAlike 145 = .ok (.invokevirtual 48, 3) := by decide +kernel
theorem dL_areAlike_148 : decode cL_areAlike 148 = .ok (.isub, 1) := by decide +kernel
theorem dL_areAlike_149 : decode cL_areAlike 149 = .ok (.if_icmp .ne 83, 3) := by decide +kernel
theorem dL_areAlike_152 : decode cL_areAlike 152 = .ok (.aload_n 0, 1) := by decide +kernel
theorem dL_areAlike_153 : decode cL_areAlike 153 = .ok (.iload 8, 2) := by decide +kernel
theorem dL_areAlike_155 : decode cL_areAlike 155 = .ok (.iconst 3, 1) := by decide +kernel
theorem dL_areAlike_156 : decode cL_areAlike 156 = .ok (.invokevirtual 48, 3) := by decide +kernel
theorem dL_areAlike_159 : decode cL_areAlike 159 = .ok (.bipush 64, 2) := by decide +kernel
theorem dL_areAlike_161 : decode cL_areAlike 161 = .ok (.aload_n 1, 1) := by decide +kernel
theorem dL_areAlike_162 : decode cL_areAlike 162 = .ok (.iload 8, 2) := by decide +kernel
theorem dL_areAlike_164 : decode cL_areAlike 164 = .ok (.iconst 2, 1) := by decide +kernel
theorem dL_areAlike_165 : decode cL_areAlike 165 = .ok (.invokevirtual 48, 3) := by decide +kernel
theorem dL_areAlike_168 : decode cL_areAlike 168 = .ok (.isub, 1) := by decide +kernel
theorem dL_areAlike_169 : decode cL_areAlike 169 = .ok (.if_icmp .ne 63, 3) := by decide +kernel
theorem dL_areAlike_172 : decode cL_areAlike 172 = .ok (.aload_n 0, 1) := by decide +kernel
theorem dL_areAlike_173 : decode cL_areAlike 173 = .ok (.iload 8, 2) := by decide +kernel
theorem dL_areAlike_175 : decode cL_areAlike 175 = .ok (.iconst 4, 1) := by decide +kernel
theorem dL_areAlike_176 : decode cL_areAlike 176 = .ok (.invokevirtual 48, 3) := by decide +kernel
theorem dL_areAlike_179 : decode cL_areAlike 179 = .ok (.aload_n 1, 1) := by decide +kernel
theorem dL_areAlike_180 : decode cL_areAlike 180 = .ok (.iload 8, 2) := by decide +kernel
theorem dL_areAlike_182 : decode cL_areAlike 182 = .ok (.iconst 4, 1) := by decide +kernel
theorem dL_areAlike_183 : decode cL_areAlike 183 = .ok (.invokevirtual 48, 3) := by decide +kernel
theorem dL_areAlike_186 : decode cL_areAlike 186 = .ok (.if_icmp .ne 46, 3) := by decide +kernel
theorem dL_areAlike_189 : decode cL_areAlike 189 = .ok (.aload_n 0, 1) := by decide +kernel
theorem dL_areAlike_190 : decode cL_areAlike 190 = .ok (.iload 8, 2) := by decide +kernel
theorem dL_areAlike_192 : decode cL_areAlike 192 = .ok (.iconst 5, 1) := by decide +kernel
theorem dL_areAlike_193 : decode cL_areAlike 193 = .ok (.invokevirtual 48, 3) := by decide +kernel
theorem dL_areAlike_196 : decode cL_areAlike 196 = .ok (.aload_n 1, 1) := by decide +kernel
theorem dL_areAlike_197 : decode cL_areAlike 197 = .ok (.iload 8, 2) := by decide +kernel
theorem dL_areAlike_199 : decode cL_areAlike 199 = .ok (.iconst 5, 1) := by decide +kernel
theorem dL_areAlike_200 : decode cL_areAlike 200 = .ok (.invokevirtual 48, 3) := by decide +kernel
theorem dL_areAlike_203 : decode cL_areAlike 203 = .ok (.if_icmp .ne 29, 3) := by decide +kernel
theorem dL_areAlike_206 : decode cL_areAlike 206 = .ok (.aload_n 0, 1) := by decide +kernel
theorem dL_areAlike_207 : decode cL_areAlike 207 = .ok (.iload 8, 2) := by decide +kernel
theorem dL_areAlike_209 : decode cL_areAlike 209 = .ok (.iload 5, 2) := by decide +kernel
theorem dL_areAlike_211 : decode cL_areAlike 211 = .ok (.invokevirtual 51, 3) := by decide +kernel
theorem dL_areAlike_214 : decode cL_areAlike 214 = .ok (.aload_n 1, 1) := by decide +kernel
theorem dL_areAlike_215 : decode cL_areAlike 215 = .ok (.iload 8, 2) := by decide +kernel
theorem dL_areAlike_217 : decode cL_areAlike 217 = .ok (.bipush 63, 2) := by decide +kernel
theorem dL_areAlike_219 : decode cL_areAlike 219 = .ok (.iload 5, 2) := by decide +kernel
theorem dL_areAlike_221 : decode cL_areAlike 221 = .ok (.isub, 1) := by decide +kernel
theorem dL_areAlike_222 : decode cL_areAlike 222 = .ok (.invokevirtual 51, 3) := by decide +kernel
theorem dL_areAlike_225 : decode cL_areAlike 225 = .ok (.if_icmp .ne 7, 3) := by decide +kernel
theorem dL_areAlike_228 : decode cL_areAlike 228 = .ok (.iconst 1, 1) := by decide +kernel
theorem dL_areAlike_229 : decode cL_areAlike 229 = .ok (.goto 4, 3) := by decide +kernel
theorem dL_areAlike_232 : decode cL_areAlike 232 = .ok (.iconst 0, 1) := by decide +kernel
theorem dL_areAlike_233 : decode cL_areAlike 233 = .ok (.istore 4, 2) := by decide +kernel
theorem dL_areAlike_235 : decode cL_areAlike 235 = .ok (.iinc 8 1, 3) := by decide +kernel
theorem dL_areAlike_238 : decode cL_areAlike 238 = .ok (.goto (-159), 3) := by decide +kernel
theorem dL_areAlike_241 : decode cL_areAlike 241 = .ok (.iconst 0, 1) := by decide +kernel
theorem dL_areAlike_242 : decode cL_areAlike 242 = .ok (.istore 8, 2) := by decide +kernel
theorem dL_areAlike_244 : decode cL_areAlike 244 = .ok (.iload 8, 2) := by decide +kernel
theorem dL_areAlike_246 : decode cL_areAlike 246 = .ok (.bipush 6, 2) := by decide +kernel
theorem dL_areAlike_248 : decode cL_areAlike 248 = .ok (.if_icmp .ge 43, 3) := by decide +kernel
theorem dL_areAlike_251 : decode cL_areAlike 251 = .ok (.iload 4, 2) := by decide +kernel
theorem dL_areAlike_253 : decode cL_areAlike 253 = .ok (.ifCond .eq 29, 3) := by decide +kernel
theorem dL_areAlike_256 : decode cL_areAlike 256 = .ok (.aload_n 0, 1) := by decide +kernel
theorem dL_areAlike_257 : decode cL_areAlike 257 = .ok (.iload 5, 2) := by decide +kernel
theorem dL_areAlike_259 : decode cL_areAlike 259 = .ok (.iload 8, 2) := by decide +kernel
theorem dL_areAlike_261 : decode cL_areAlike 261 = .ok (.invokevirtual 32, 3) := by decide +kernel
theorem dL_areAlike_264 : decode cL_areAlike 264 = .ok (.aload_n 1, 1) := by decide +kernel
theorem dL_areAlike_265 : decode cL_areAlike 265 = .ok (.bipush 63, 2) := by decide +kernel
theorem dL_areAlike_267 : decode cL_areAlike 267 = .ok (.iload 5, 2) := by decide +kernel
theorem dL_areAlike_269 : decode cL_areAlike 269 = .ok (.isub, 1) := by decide +kernel
theorem dL_areAlike_270 : decode cL_areAlike 270 = .ok (.iload 8, 2) := by decide +kernel
theorem dL_areAlike_272 : decode cL_areAlike 272 = .ok (.invokevirtual 32, 3) := by decide +kernel
theorem dL_areAlike_275 : decode cL_areAlike 275 = .ok (.if_icmp .ne 7, 3) := by decide +kernel
theorem dL_areAlike_278 : decode cL_areAlike 278 = .ok (.iconst 1, 1) := by decide +kernel
theorem dL_areAlike_279 : decode cL_areAlike 279 = .ok (.goto 4, 3) := by decide +kernel
theorem dL_areAlike_282 : decode cL_areAlike 282 = .ok (.iconst 0, 1) := by decide +kernel
theorem dL_areAlike_283 : decode cL_areAlike 283 = .ok (.istore 4, 2) := by decide +kernel
theorem dL_areAlike_285 : decode cL_areAlike 285 = .ok (.iinc 8 1, 3) := by decide +kernel
theorem dL_areAlike_288 : decode cL_areAlike 288 = .ok (.goto (-44), 3) := by decide +kernel
theorem dL_areAlike_291 : decode cL_areAlike 291 = .ok (.iconst 0, 1) := by decide +kernel
theorem dL_areAlike_292 : decode cL_areAlike 292 = .ok (.istore 8, 2) := by decide +kernel
theorem dL_areAlike_294 : decode cL_areAlike 294 = .ok (.iload 8, 2) := by decide +kernel
theorem dL_areAlike_296 : decode cL_areAlike 296 = .ok (.bipush 7, 2) := by decide +kernel
theorem dL_areAlike_298 : decode cL_areAlike 298 = .ok (.if_icmp .ge 133, 3) := by decide +kernel
theorem dL_areAlike_301 : decode cL_areAlike 301 = .ok (.iload 4, 2) := by decide +kernel
theorem dL_areAlike_303 : decode cL_areAlike 303 = .ok (.ifCond .eq 119, 3) := by decide +kernel
theorem dL_areAlike_306 : decode cL_areAlike 306 = .ok (.aload_n 0, 1) := by decide +kernel
theorem dL_areAlike_307 : decode cL_areAlike 307 = .ok (.iload 5, 2) := by decide +kernel
theorem dL_areAlike_309 : decode cL_areAlike 309 = .ok (.iload 8, 2) := by decide +kernel
theorem dL_areAlike_311 : decode cL_areAlike 311 = .ok (.iconst 0, 1) := by decide +kernel
theorem dL_areAlike_312 : decode cL_areAlike 312 = .ok (.invokevirtual 54, 3) := by decide +kernel
theorem dL_areAlike_315 : decode cL_areAlike 315 = .ok (.bipush 64, 2) := by decide +kernel
theorem dL_areAlike_317 : decode cL_areAlike 317 = .ok (.aload_n 1, 1) := by decide +kernel
theorem dL_areAlike_318 : decode cL_areAlike 318 = .ok (.bipush 63, 2) := by decide +kernel
theorem dL_areAlike_320 : decode cL_areAlike 320 = .ok (.iload 5, 2) := by decide +kernel
theorem dL_areAlike_322 : decode cL_areAlike 322 = .ok (.isub, 1) := by decide +kernel
theorem dL_areAlike_323 : decode cL_areAlike 323 = .ok (.iload 8, 2) := by decide +kernel
theorem dL_areAlike_325 : decode cL_areAlike 325 = .ok (.iconst 0, 1) := by decide +kernel
theorem dL_areAlike_326 : decode cL_areAlike 326 = .ok (.invokevirtual 54, 3) := by decide +kernel
theorem dL_areAlike_329 : decode cL_areAlike 329 = .ok (.isub, 1) := by decide +kernel
theorem dL_areAlike_330 : decode cL_areAlike 330 = .ok (.aload_n 1, 1) := by decide +kernel
theorem dL_areAlike_331 : decode cL_areAlike 331 = .ok (.bipush 63, 2) := by decide +kernel
theorem dL_areAlike_333 : decode cL_areAlike 333 = .ok (.iload 5, 2) := by decide +kernel
theorem dL_areAlike_335 : decode cL_areAlike 335 = .ok (.isub, 1) := by decide +kernel
theorem dL_areAlike_336 : decode cL_areAlike 336 = .ok (.iload 8, 2) := by decide +kernel
theorem dL_areAlike_338 : decode cL_areAlike 338 = .ok (.iconst 1, 1) := by decide +kernel
theorem dL_areAlike_339 : decode cL_areAlike 339 = .ok (.invokevirtual 54, 3) := by decide +kernel
theorem dL_areAlike_342 : decode cL_areAlike 342 = .ok (.isub, 1) := by decide +kernel
theorem dL_areAlike_343 : decode cL_areAlike 343 = .ok (.if_icmp .ne 79, 3) := by decide +kernel
theorem dL_areAlike_346 : decode cL_areAlike 346 = .ok (.aload_n 0, 1) := by decide +kernel
theorem dL_areAlike_347 : decode cL_areAlike 347 = .ok (.iload 5, 2) := by decide +kernel
theorem dL_areAlike_349 : decode cL_areAlike 349 = .ok (.iload 8, 2) := by decide +kernel
theorem dL_areAlike_351 : decode cL_areAlike 351 = .ok (.iconst 2, 1) := by decide +kernel
theorem dL_areAlike_352 : decode cL_areAlike 352 = .ok (.invokevirtual 54, 3) := by decide +kernel
theorem dL_areAlike_355 : decode cL_areAlike 355 = .ok (.aload_n 1, 1) := by decide +kernel
theorem dL_areAlike_356 : decode cL_areAlike 356 = .ok (.bipush 63, 2) := by decide +kernel
theorem dL_areAlike_358 : decode cL_areAlike 358 = .ok (.iload 5, 2) := by decide +kernel
theorem dL_areAlike_360 : decode cL_areAlike 360 = .ok (.isub, 1) := by decide +kernel
theorem dL_areAlike_361 : decode cL_areAlike 361 = .ok (.iload 8, 2) := by decide +kernel
theorem dL_areAlike_363 : decode cL_areAlike 363 = .ok (.iconst 2, 1) := by decide +kernel
theorem dL_areAlike_364 : decode cL_areAlike 364 = .ok (.invokevirtual 54, 3) := by decide +kernel
theorem dL_areAlike_367 : decode cL_areAlike 367 = .ok (.if_icmp .ne 55, 3) := by decide +kernel
theorem dL_areAlike_370 : decode cL_areAlike 370 = .ok (.aload_n 0, 1) := by decide +kernel
theorem dL_areAlike_371 : decode cL_areAlike 371 = .ok (.iload 5, 2) := by decide +kernel
theorem dL_areAlike_373 : decode cL_areAlike 373 = .ok (.iload 8, 2) := by decide +kernel
theorem dL_areAlike_375 : decode cL_areAlike 375 = .ok (.iconst 3, 1) := by decide +kernel
theorem dL_areAlike_376 : decode cL_areAlike 376 = .ok (.invokevirtual 54, 3) := by decide +kernel
theorem dL_areAlike_379 : decode cL_areAlike 379 = .ok (.aload_n 1, 1) := by decide +kernel
theorem dL_areAlike_380 : decode cL_areAlike 380 = .ok (.bipush 63, 2) := by decide +kernel
theorem dL_areAlike_382 : decode cL_areAlike 382 = .ok (.iload 5, 2) := by decide +kernel
theorem dL_areAlike_384 : decode cL_areAlike 384 = .ok (.isub, 1) := by decide +kernel
theorem dL_areAlike_385 : decode cL_areAlike 385 = .ok (.iload 8, 2) := by decide +kernel
theorem dL_areAlike_387 : decode cL_areAlike 387 = .ok (.iconst 3, 1) := by decide +kernel
theorem dL_areAlike_388 : decode cL_areAlike 388 = .ok (.invokevirtual 54, 3) := by decide +kernel
theorem dL_areAlike_391 : decode cL_areAlike 391 = .ok (.if_icmp .ne 31, 3) := by decide +kernel
theorem dL_areAlike_394 : decode cL_areAlike 394 = .ok (.aload_n 0, 1) := by decide +kernel
theorem dL_areAlike_395 : decode cL_areAlike 395 = .ok (.iload 5, 2) := by decide +kernel
theorem dL_areAlike_397 : decode cL_areAlike 397 = .ok (.iload 8, 2) := by decide +kernel
theorem dL_areAlike_399 : decode cL_areAlike 399 = .ok (.iconst 4, 1) := by decide +kernel
theorem dL_areAlike_400 : decode cL_areAlike 400 = .ok (.invokevirtual 54, 3) := by decide +kernel
theorem dL_areAlike_403 : decode cL_areAlike 403 = .ok (.aload_n 1, 1) := by decide +kernel
theorem dL_areAlike_404 : decode cL_areAlike 404 = .ok (.bipush 63, 2) := by decide +kernel
theorem dL_areAlike_406 : decode cL_areAlike 406 = .ok (.iload 5, 2) := by decide +kernel
theorem dL_areAlike_408 : decode cL_areAlike 408 = .ok (.isub, 1) := by decide +kernel
theorem dL_areAlike_409 : decode cL_areAlike 409 = .ok (.iload 8, 2) := by decide +kernel
theorem dL_areAlike_411 : decode cL_areAlike 411 = .ok (.iconst 4, 1) := by decide +kernel
theorem dL_areAlike_412 : decode cL_areAlike 412 = .ok (.invokevirtual 54, 3) := by decide +kernel
theorem dL_areAlike_415 : decode cL_areAlike 415 = .ok (.if_icmp .ne 7, 3) := by decide +kernel
theorem dL_areAlike_418 : decode cL_areAlike 418 = .ok (.iconst 1, 1) := by decide +kernel
theorem dL_areAlike_419 : decode cL_areAlike 419 = .ok (.goto 4, 3) := by decide +kernel
theorem dL_areAlike_422 : decode cL_areAlike 422 = .ok (.iconst 0, 1) := by decide +kernel
theorem dL_areAlike_423 : decode cL_areAlike 423 = .ok (.istore 4, 2) := by decide +kernel
theorem dL_areAlike_425 : decode cL_areAlike 425 = .ok (.iinc 8 1, 3) := by decide +kernel
theorem dL_areAlike_428 : decode cL_areAlike 428 = .ok (.goto (-134), 3) := by decide +kernel
theorem dL_areAlike_431 : decode cL_areAlike 431 = .ok (.aload_n 0, 1) := by decide +kernel
theorem dL_areAlike_432 : decode cL_areAlike 432 = .ok (.iload 6, 2) := by decide +kernel
theorem dL_areAlike_434 : decode cL_areAlike 434 = .ok (.iload 7, 2) := by decide +kernel
theorem dL_areAlike_436 : decode cL_areAlike 436 = .ok (.iconst 1, 1) := by decide +kernel
theorem dL_areAlike_437 : decode cL_areAlike 437 = .ok (.invokevirtual 57, 3) := by decide +kernel
theorem dL_areAlike_440 : decode cL_areAlike 440 = .ok (.istore 8, 2) := by decide +kernel
theorem dL_areAlike_442 : decode cL_areAlike 442 = .ok (.aload_n 0, 1) := by decide +kernel
theorem dL_areAlike_443 : decode cL_areAlike 443 = .ok (.iload 6, 2) := by decide +kernel
theorem dL_areAlike_445 : decode cL_areAlike 445 = .ok (.iload 7, 2) := by decide +kernel
theorem dL_areAlike_447 : decode cL_areAlike 447 = .ok (.iconst 2, 1) := by decide +kernel
theorem dL_areAlike_448 : decode cL_areAlike 448 = .ok (.invokevirtual 57, 3) := by decide +kernel
theorem dL_areAlike_451 : decode cL_areAlike 451 = .ok (.istore 9, 2) := by decide +kernel
theorem dL_areAlike_453 : decode cL_areAlike 453 = .ok (.iload 4, 2) := by decide +kernel
theorem dL_areAlike_455 : decode cL_areAlike 455 = .ok (.ifCond .eq 155, 3) := by decide +kernel
theorem dL_areAlike_458 : decode cL_areAlike 458 = .ok (.aload_n 0, 1) := by decide +kernel
theorem dL_areAlike_459 : decode cL_areAlike 459 = .ok (.iload 5, 2) := by decide +kernel
theorem dL_areAlike_461 : decode cL_areAlike 461 = .ok (.iload 6, 2) := by decide +kernel
theorem dL_areAlike_463 : decode cL_areAlike 463 = .ok (.iconst 2, 1) := by decide +kernel
theorem dL_areAlike_464 : decode cL_areAlike 464 = .ok (.invokevirtual 60, 3) := by decide +kernel
theorem dL_areAlike_467 : decode cL_areAlike 467 = .ok (.iload_n 2, 1) := by decide +kernel
theorem dL_areAlike_468 : decode cL_areAlike 468 = .ok (.invokestatic 63, 3) := by decide +kernel
theorem dL_areAlike_471 : decode cL_areAlike 471 = .ok (.aload_n 1, 1) := by decide +kernel
theorem dL_areAlike_472 : decode cL_areAlike 472 = .ok (.bipush 63, 2) := by decide +kernel
theorem dL_areAlike_474 : decode cL_areAlike 474 = .ok (.iload 5, 2) := by decide +kernel
theorem dL_areAlike_476 : decode cL_areAlike 476 = .ok (.isub, 1) := by decide +kernel
theorem dL_areAlike_477 : decode cL_areAlike 477 = .ok (.iload 6, 2) := by decide +kernel
theorem dL_areAlike_479 : decode cL_areAlike 479 = .ok (.iload_n 2, 1) := by decide +kernel
theorem dL_areAlike_480 : decode cL_areAlike 480 = .ok (.ixor, 1) := by decide +kernel
theorem dL_areAlike_481 : decode cL_areAlike 481 = .ok (.iconst 2, 1) := by decide +kernel
theorem dL_areAlike_482 : decode cL_areAlike 482 = .ok (.invokevirtual 60, 3) := by decide +kernel
theorem dL_areAlike_485 : decode cL_areAlike 485 = .ok (.if_icmp .ne 125, 3) := by decide +kernel
theorem dL_areAlike_488 : decode cL_areAlike 488 = .ok (.aload_n 0, 1) := by decide +kernel
theorem dL_areAlike_489 : decode cL_areAlike 489 = .ok (.iload 6, 2) := by decide +kernel
theorem dL_areAlike_491 : decode cL_areAlike 491 = .ok (.iload 7, 2) := by decide +kernel
theorem dL_areAlike_493 : decode cL_areAlike 493 = .ok (.iconst 0, 1) := by decide +kernel
theorem dL_areAlike_494 : decode cL_areAlike 494 = .ok (.invokevirtual 57, 3) := by decide +kernel
theorem dL_areAlike_497 : decode cL_areAlike 497 = .ok (.aload_n 1, 1) := by decide +kernel
theorem dL_areAlike_498 : decode cL_areAlike 498 = .ok (.iload 6, 2) := by decide +kernel
theorem dL_areAlike_500 : decode cL_areAlike 500 = .ok (.iload_n 2, 1) := by decide +kernel
theorem dL_areAlike_501 : decode cL_areAlike 501 = .ok (.ixor, 1) := by decide +kernel
theorem dL_areAlike_502 : decode cL_areAlike 502 = .ok (.iload 7, 2) := by decide +kernel
theorem dL_areAlike_504 : decode cL_areAlike 504 = .ok (.iload_n 2, 1) := by decide +kernel
theorem dL_areAlike_505 : decode cL_areAlike 505 = .ok (.ixor, 1) := by decide +kernel
theorem dL_areAlike_506 : decode cL_areAlike 506 = .ok (.iconst 0, 1) := by decide +kernel
theorem dL_areAlike_507 : decode cL_areAlike 507 = .ok (.invokevirtual 57, 3) := by decide +kernel
theorem dL_areAlike_510 : decode cL_areAlike 510 = .ok (.if_icmp .ne 100, 3) := by decide +kernel
theorem dL_areAlike_513 : decode cL_areAlike 513 = .ok (.aload_n 0, 1) := by decide +kernel
theorem dL_areAlike_514 : decode cL_areAlike 514 = .ok (.iload 6, 2) := by decide +kernel
theorem dL_areAlike_516 : decode cL_areAlike 516 = .ok (.iload 7, 2) := by decide +kernel
theorem dL_areAlike_518 : decode cL_areAlike 518 = .ok (.iconst 3, 1) := by decide +kernel
theorem dL_areAlike_519 : decode cL_areAlike 519 = .ok (.invokevirtual 57, 3) := by decide +kernel
theorem dL_areAlike_522 : decode cL_areAlike 522 = .ok (.aload_n 1, 1) := by decide +kernel
theorem dL_areAlike_523 : decode cL_areAlike 523 = .ok (.iload 6, 2) := by decide +kernel
theorem dL_areAlike_525 : decode cL_areAlike 525 = .ok (.iload_n 2, 1) := by decide +kernel
theorem dL_areAlike_526 : decode cL_areAlike 526 = .ok (.ixor, 1) := by decide +kernel
theorem dL_areAlike_527 : decode cL_areAlike 527 = .ok (.iload 7, 2) := by decide +kernel
theorem dL_areAlike_529 : decode cL_areAlike 529 = .ok (.iload_n 2, 1) := by decide +kernel
theorem dL_areAlike_530 : decode cL_areAlike 530 = .ok (.ixor, 1) := by decide +kernel
theorem dL_areAlike_531 : decode cL_areAlike 531 = .ok (.iconst 3, 1) := by decide +kernel
theorem dL_areAlike_532 : decode cL_areAlike 532 = .ok (.invokevirtual 57, 3) := by decide +kernel
theorem dL_areAlike_535 : decode cL_areAlike 535 = .ok (.if_icmp .ne 75, 3) := by decide +kernel
theorem dL_areAlike_538 : decode cL_areAlike 538 = .ok (.iload 8, 2) := by decide +kernel
theorem dL_areAlike_540 : decode cL_areAlike 540 = .ok (.ifCond .ge 24, 3) := by decide +kernel
theorem dL_areAlike_543 : decode cL_areAlike 543 = .ok (.aload_n 1, 1) := by decide +kernel
theorem dL_areAlike_544 : decode cL_areAlike 544 = .ok (.iload 6, 2) := by decide +kernel
theorem dL_areAlike_546 : decode cL_areAlike 546 = .ok (.iload_n 2, 1) := by decide +kernel
theorem dL_areAlike_547 : decode cL_areAlike 547 = .ok (.ixor, 1) := by decide +kernel
theorem dL_areAlike_548 : decode cL_areAlike 548 = .ok (.iload 7, 2) := by decide +kernel
theorem dL_areAlike_550 : decode cL_areAlike 550 = .ok (.iload_n 2, 1) := by decide +kernel
theorem dL_areAlike_551 : decode cL_areAlike 551 = .ok (.ixor, 1) := by decide +kernel
theorem dL_areAlike_552 : decode cL_areAlike 552 = .ok (.iconst 1, 1) := by decide +kernel
theorem dL_areAlike_553 : decode cL_areAlike 553 = .ok (.invokevirtual 57, 3) := by decide +kernel
theorem dL_areAlike_556 : decode cL_areAlike 556 = .ok (.iload 8, 2) := by decide +kernel
theorem dL_areAlike_558 : decode cL_areAlike 558 = .ok (.if_icmp .ne 52, 3) := by decide +kernel
theorem dL_areAlike_561 : decode cL_areAlike 561 = .ok (.goto 45, 3) := by decide +kernel
theorem dL_areAlike_564 : decode cL_areAlike 564 = .ok (.aload_n 1, 1) := by decide +kernel
theorem dL_areAlike_565 : decode cL_areAlike 565 = .ok (.iload 6, 2) := by decide +kernel
theorem dL_areAlike_567 : decode cL_areAlike 567 = .ok (.iload_n 2, 1) := by decide +kernel
theorem dL_areAlike_568 : decode cL_areAlike 568 = .ok (.ixor, 1) := by decide +kernel
theorem dL_areAlike_569 : decode cL_areAlike 569 = .ok (.iload 7, 2) := by decide +kernel
theorem dL_areAlike_571 : decode cL_areAlike 571 = .ok (.iload_n 2, 1) := by decide +kernel
theorem dL_areAlike_572 : decode cL_areAlike 572 = .ok (.ixor, 1) := by decide +kernel
theorem dL_areAlike_573 : decode cL_areAlike 573 = .ok (.iconst 2, 1) := by decide +kernel
theorem dL_areAlike_574 : decode cL_areAlike 574 = .ok (.invokevirtual 57, 3) := by decide +kernel
theorem dL_areAlike_577 : decode cL_areAlike 577 = .ok (.bipush 63, 2) := by decide +kernel
theorem dL_areAlike_579 : decode cL_areAlike 579 = .ok (.iload 8, 2) := by decide +kernel
theorem dL_areAlike_581 : decode cL_areAlike 581 = .ok (.isub, 1) := by decide +kernel
theorem dL_areAlike_582 : decode cL_areAlike 582 = .ok (.if_icmp .ne 28, 3) := by decide +kernel
theorem dL_areAlike_585 : decode cL_areAlike 585 = .ok (.aload_n 1, 1) := by decide +kernel
theorem dL_areAlike_586 : decode cL_areAlike 586 = .ok (.iload 6, 2) := by decide +kernel
theorem dL_areAlike_588 : decode cL_areAlike 588 = .ok (.iload_n 2, 1) := by decide +kernel
theorem dL_areAlike_589 : decode cL_areAlike 589 = .ok (.ixor, 1) := by decide +kernel
theorem dL_areAlike_590 : decode cL_areAlike 590 = .ok (.iload 7, 2) := by decide +kernel
theorem dL_areAlike_592 : decode cL_areAlike 592 = .ok (.iload_n 2, 1) := by decide +kernel
theorem dL_areAlike_593 : decode cL_areAlike 593 = .ok (.ixor, 1) := by decide +kernel
theorem dL_areAlike_594 : decode cL_areAlike 594 = .ok (.iconst 1, 1) := by decide +kernel
theorem dL_areAlike_595 : decode cL_areAlike 595 = .ok (.invokevirtual 57, 3) := by decide +kernel
theorem dL_areAlike_598 : decode cL_areAlike 598 = .ok (.bipush 63, 2) := by decide +kernel
theorem dL_areAlike_600 : decode cL_areAlike 600 = .ok (.iload 9, 2) := by decide +kernel
theorem dL_areAlike_602 : decode cL_areAlike 602 = .ok (.isub, 1) := by decide +kernel
theorem dL_areAlike_603 : decode cL_areAlike 603 = .ok (.if_icmp .ne 7, 3) := by decide +kernel
theorem dL_areAlike_606 : decode cL_areAlike 606 = .ok (.iconst 1, 1) := by decide +kernel
theorem dL_areAlike_607 : decode cL_areAlike 607 = .ok (.goto 4, 3) := by decide +kernel
theorem dL_areAlike_610 : decode cL_areAlike 610 = .ok (.iconst 0, 1) := by decide +kernel
theorem dL_areAlike_611 : decode cL_areAlike 611 = .ok (.ireturn, 1) := by decide +kernel
theorem dL_isWell_0 : decode cL_isWell 0 = .ok (.iload_n 1, 1) := by decide +kernel
theorem dL_isWell_1 : decode cL_isWell 1 = .ok (.bipush 64, 2) := by decide +kernel
theorem dL_isWell_3 : decode cL_isWell 3 = .ok (.invokestatic 15, 3) := by decide +kernel
theorem dL_isWell_6 : decode cL_isWell 6 = .ok (.istore_n 2, 1) := by decide +kernel
theorem dL_isWell_7 : decode cL_isWell 7 = .ok (.iload_n 1, 1) := by decide +kernel
theorem dL_isWell_8 : decode cL_isWell 8 = .ok (.bipush 6, 2) := by decide +kernel
theorem dL_isWell_10 : decode cL_isWell 10 = .ok (.ishr, 1) := by decide +kernel
theorem dL_isWell_11 : decode cL_isWell 11 = .ok (.bipush 16, 2) := by decide +kernel
theorem dL_isWell_13 : decode cL_isWell 13 = .ok (.invokestatic 15, 3) := by decide +kernel
theorem dL_isWell_16 : decode cL_isWell 16 = .ok (.istore_n 3, 1) := by decide +kernel
theorem dL_isWell_17 : decode cL_isWell 17 = .ok (.iload_n 1, 1) := by decide +kernel
theorem dL_isWell_18 : decode cL_isWell 18 = .ok (.bipush 10, 2) := by decide +kernel
theorem dL_isWell_20 : decode cL_isWell 20 = .ok (.ishr, 1) := by decide +kernel
theorem dL_isWell_21 : decode cL_isWell 21 = .ok (.bipush 16, 2) := by decide +kernel
theorem dL_isWell_23 : decode cL_isWell 23 = .ok (.invokestatic 15, 3) := by decide +kernel
theorem dL_isWell_26 : decode cL_isWell 26 = .ok (.istore 4, 2) := by decide +kernel
theorem dL_isWell_28 : decode cL_isWell 28 = .ok (.aload_n 0, 1) := by decide +kernel
theorem dL_isWell_29 : decode cL_isWell 29 = .ok (.iconst 0, 1) := by decide +kernel
theorem dL_isWell_30 : decode cL_isWell 30 = .ok (.invokevirtual 9, 3) := by decide +kernel
theorem dL_isWell_33 : decode cL_isWell 33 = .ok (.istore 5, 2) := by decide +kernel
theorem dL_isWell_35 : decode cL_isWell 35 = .ok (.iconst 0, 1) := by decide +kernel
theorem dL_isWell_36 : decode cL_isWell 36 = .ok (.istore 6, 2) := by decide +kernel
theorem dL_isWell_38 : decode cL_isWell 38 = .ok (.iconst 0, 1) := by decide +kernel
theorem dL_isWell_39 : decode cL_isWell 39 = .ok (.istore 7, 2) := by decide +kernel
theorem dL_isWell_41 : decode cL_isWell 41 = .ok (.iconst 0, 1) := by decide +kernel
theorem dL_isWell_42 : decode cL_isWell 42 = .ok (.istore 8, 2) := by decide +kernel
theorem dL_isWell_44 : decode cL_isWell 44 = .ok (.iconst 0, 1) := by decide +kernel
theorem dL_isWell_45 : decode cL_isWell 45 = .ok (.istore 9, 2) := by decide +kernel
theorem dL_isWell_47 : decode cL_isWell 47 = .ok (.aload_n 0, 1) := by decide +kernel
theorem dL_isWell_48 : decode cL_isWell 48 = .ok (.iload_n 2, 1) := by decide +kernel
theorem dL_isWell_49 : decode cL_isWell 49 = .ok (.iload_n 3, 1) := by decide +kernel
theorem dL_isWell_50 : decode cL_isWell 50 = .ok (.iload_n 3, 1) := by decide +kernel
theorem dL_isWell_51 : decode cL_isWell 51 = .ok (.invokevirtual 66, 3) := by decide +kernel
theorem dL_isWell_54 : decode cL_isWell 54 = .ok (.iconst 1, 1) := by decide +kernel
theorem dL_isWell_55 : decode cL_isWell 55 = .ok (.if_icmp .ne 108, 3) := by decide +kernel
theorem dL_isWell_58 : decode cL_isWell 58 = .ok (.aload_n 0, 1) := by decide +kernel
theorem dL_isWell_59 : decode cL_isWell 59 = .ok (.iload_n 2, 1) := by decide +kernel
theorem dL_isWell_60 : decode cL_isWell 60 = .ok (.iload_n 3, 1) := by decide +kernel
theorem dL_isWell_61 : decode cL_isWell 61 = .ok (.iload 4, 2) := by decide +kernel
theorem dL_isWell_63 : decode cL_isWell 63 = .ok (.invokevirtual 66, 3) := by decide +kernel
theorem dL_isWell_66 : decode cL_isWell 66 = .ok (.aload_n 0, 1) := by decide +kernel
theorem dL_isWell_67 : decode cL_isWell 67 = .ok (.iload_n 2, 1) := by decide +kernel
theorem dL_isWell_68 : decode cL_isWell 68 = .ok (.iload 4, 2) := by decide +kernel
theorem dL_isWell_70 : decode cL_isWell 70 = .ok (.iload_n 3, 1) := by decide +kernel
theorem dL_isWell_71 : decode cL_isWell 71 = .ok (.invokevirtual 66, 3) := by decide +kernel
theorem dL_isWell_74 : decode cL_isWell 74 = .ok (.if_icmp .ne 89, 3) := by decide +kernel
theorem dL_isWell_77 : decode cL_isWell 77 = .ok (.aload_n 0, 1) := by decide +kernel
theorem dL_isWell_78 : decode cL_isWell 78 = .ok (.iload_n 2, 1) := by decide +kernel
theorem dL_isWell_79 : decode cL_isWell 79 = .ok (.iload_n 3, 1) := by decide +kernel
theorem dL_isWell_80 : decode cL_isWell 80 = .ok (.iload 4, 2) := by decide +kernel
theorem dL_isWell_82 : decode cL_isWell 82 = .ok (.invokevirtual 66, 3) := by decide +kernel
theorem dL_isWell_85 : decode cL_isWell 85 = .ok (.aload_n 0, 1) := by decide +kernel
theorem dL_isWell_86 : decode cL_isWell 86 = .ok (.iload_n 2, 1) := by decide +kernel
theorem dL_isWell_87 : decode cL_isWell 87 = .ok (.iload_n 3, 1) := by decide +kernel
theorem dL_isWell_88 : decode cL_isWell 88 = .ok (.iconst 2, 1) := by decide +kernel
theorem dL_isWell_89 : decode cL_isWell 89 = .ok (.invokevirtual 60, 3) := by decide +kernel
theorem dL_isWell_92 : decode cL_isWell 92 = .ok (.iload 4, 2) := by decide +kernel
theorem dL_isWell_94 : decode cL_isWell 94 = .ok (.ishr, 1) := by decide +kernel
theorem dL_isWell_95 : decode cL_isWell 95 = .ok (.iconst 1, 1) := by decide +kernel
theorem dL_isWell_96 : decode cL_isWell 96 = .ok (.iand, 1) := by decide +kernel
theorem dL_isWell_97 : decode cL_isWell 97 = .ok (.if_icmp .ne 66, 3) := by decide +kernel
theorem dL_isWell_100 : decode cL_isWell 100 = .ok (.aload_n 0, 1) := by decide +kernel
theorem dL_isWell_101 : decode cL_isWell 101 = .ok (.iload_n 2, 1) := by decide +kernel
theorem dL_isWell_102 : decode cL_isWell 102 = .ok (.iload_n 3, 1) := by decide +kernel
theorem dL_isWell_103 : decode cL_isWell 103 = .ok (.iload 4, 2) := by decide +kernel
theorem dL_isWell_105 : decode cL_isWell 105 = .ok (.invokevirtual 66, 3) := by decide +kernel
theorem dL_isWell_108 : decode cL_isWell 108 = .ok (.iconst 1, 1) := by decide +kernel
theorem dL_isWell_109 : decode cL_isWell 109 = .ok (.if_icmp .ne 7, 3) := by decide +kernel
theorem dL_isWell_112 : decode cL_isWell 112 = .ok (.iconst 1, 1) := by decide +kernel
theorem dL_isWell_113 : decode cL_isWell 113 = .ok (.goto 4, 3) := by decide +kernel
theorem dL_isWell_116 : decode cL_isWell 116 = .ok (.iconst 0, 1) := by decide +kernel
theorem dL_isWell_117 : decode cL_isWell 117 = .ok (.aload_n 0, 1) := by decide +kernel
theorem dL_isWell_118 : decode cL_isWell 118 = .ok (.iload_n 2, 1) := by decide +kernel
theorem dL_isWell_119 : decode cL_isWell 119 = .ok (.iload_n 3, 1) := by decide +kernel
theorem dL_isWell_120 : decode cL_isWell 120 = .ok (.iconst 0, 1) := by decide +kernel
theorem dL_isWell_121 : decode cL_isWell 121 = .ok (.invokevirtual 60, 3) := by decide +kernel
theorem dL_isWell_124 : decode cL_isWell 124 = .ok (.aload_n 0, 1) := by decide +kernel
theorem dL_isWell_125 : decode cL_isWell 125 = .ok (.iload_n 2, 1) := by decide +kernel
theorem dL_isWell_126 : decode cL_isWell 126 = .ok (.iload 4, 2) := by decide +kernel
theorem dL_isWell_128 : decode cL_isWell 128 = .ok (.iconst 0, 1) := by decide +kernel
theorem dL_isWell_129 : decode cL_isWell 129 = .ok (.invokevirtual 60, 3) := by decide +kernel
theorem dL_isWell_132 : decode cL_isWell 132 = .ok (.if_icmp .ne 7, 3) := by decide +kernel
theorem dL_isWell_135 : decode cL_isWell 135 = .ok (.iconst 1, 1) := by decide +kernel
theorem dL_isWell_136 : decode cL_isWell 136 = .ok (.goto 4, 3) := by decide +kernel
theorem dL_isWell_139 : decode cL_isWell 139 = .ok (.iconst 0, 1) := by decide +kernel
theorem dL_isWell_140 : decode cL_isWell 140 = .ok (.if_icmp .ne 23, 3) := by decide +kernel
theorem dL_isWell_143 : decode cL_isWell 143 = .ok (.aload_n 0, 1) := by decide +kernel
theorem dL_isWell_144 : decode cL_isWell 144 = .ok (.iload_n 2, 1) := by decide +kernel
theorem dL_isWell_145 : decode cL_isWell 145 = .ok (.iload_n 3, 1) := by decide +kernel
theorem dL_isWell_146 : decode cL_isWell 146 = .ok (.iconst 1, 1) := by decide +kernel
theorem dL_isWell_147 : decode cL_isWell 147 = .ok (.invokevirtual 60, 3) := by decide +kernel
theorem dL_isWell_150 : decode cL_isWell 150 = .ok (.aload_n 0, 1) := by decide +kernel
theorem dL_isWell_151 : decode cL_isWell 151 = .ok (.iload_n 2, 1) := by decide +kernel
theorem dL_isWell_152 : decode cL_isWell 152 = .ok (.iconst 3, 1) := by decide +kernel
theorem dL_isWell_153 : decode cL_isWell 153 = .ok (.invokevirtual 32, 3) := by decide +kernel
theorem dL_isWell_156 : decode cL_isWell 156 = .ok (.if_icmp .gt 7, 3) := by decide +kernel
theorem dL_isWell_159 : decode cL_isWell 159 = .ok (.iconst 1, 1) := by decide +kernel
theorem dL_isWell_160 : decode cL_isWell 160 = .ok (.goto 4, 3) := by decide +kernel
theorem dL_isWell_163 : decode cL_isWell 163 = .ok (.iconst 0, 1) := by decide +kernel
theorem dL_isWell_164 : decode cL_isWell 164 = .ok (.istore 10, 2) := by decide +kernel
theorem dL_isWell_166 : decode cL_isWell 166 = .ok (.iconst 0, 1) := by decide +kernel
theorem dL_isWell_167 : decode cL_isWell 167 = .ok (.istore 11, 2) := by decide +kernel
theorem dL_isWell_169 : decode cL_isWell 169 = .ok (.iload 11, 2) := by decide +kernel
theorem dL_isWell_171 : decode cL_isWell 171 = .ok (.iload 5, 2) := by decide +kernel
theorem dL_isWell_173 : decode cL_isWell 173 = .ok (.if_icmp .ge 191, 3) := by decide +kernel
theorem dL_isWell_176 : decode cL_isWell 176 = .ok (.aload_n 0, 1) := by decide +kernel
theorem dL_isWell_177 : decode cL_isWell 177 = .ok (.iload 11, 2) := by decide +kernel
theorem dL_isWell_179 : decode cL_isWell 179 = .ok (.iload_n 2, 1) := by decide +kernel
theorem dL_isWell_180 : decode cL_isWell 180 = .ok (.invokevirtual 51, 3) := by decide +kernel
theorem dL_isWell_183 : decode cL_isWell 183 = .ok (.istore 12, 2) := by decide +kernel
theorem dL_isWell_185 : decode cL_isWell 185 = .ok (.aload_n 0, 1) := by decide +kernel
theorem dL_isWell_186 : decode cL_isWell 186 = .ok (.iload 11, 2) := by decide +kernel
theorem dL_isWell_188 : decode cL_isWell 188 = .ok (.iconst 2, 1) := by decide +kernel
theorem dL_isWell_189 : decode cL_isWell 189 = .ok (.invokevirtual 48, 3) := by decide +kernel
theorem dL_isWell_192 : decode cL_isWell 192 = .ok (.iload_n 2, 1) := by decide +kernel
theorem dL_isWell_193 : decode cL_isWell 193 = .ok (.if_icmp .gt 18, 3) := by decide +kernel
theorem dL_isWell_196 : decode cL_isWell 196 = .ok (.iload_n 2, 1) := by decide +kernel
theorem dL_isWell_197 : decode cL_isWell 197 = .ok (.aload_n 0, 1) := by decide +kernel
theorem dL_isWell_198 : decode cL_isWell 198 = .ok (.iload 11, 2) := by decide +kernel
theorem dL_isWell_200 : decode cL_isWell 200 = .ok (.iconst 3, 1) := by decide +kernel
theorem dL_isWell_201 : decode cL_isWell 201 = .ok (.invokevirtual 48, 3) := by decide +kernel
theorem dL_isWell_204 : decode cL_isWell 204 = .ok (.if_icmp .ge 7, 3) := by decide +kernel
theorem dL_isWell_207 : decode cL_isWell 207 = .ok (.iconst 1, 1) := by decide +kernel
theorem dL_isWell_208 : decode cL_isWell 208 = .ok (.goto 4, 3) := by decide +kernel
theorem dL_isWell_211 : decode cL_isWell 211 = .ok (.iconst 0, 1) := by decide +kernel
theorem dL_isWell_212 : decode cL_isWell 212 = .ok (.istore 13, 2) := by decide +kernel
theorem dL_isWell_214 : decode cL_isWell 214 = .ok (.iload 6, 2) := by decide +kernel
theorem dL_isWell_216 : decode cL_isWell 216 = .ok (.iload 13, 2) := by decide +kernel
theorem dL_isWell_218 : decode cL_isWell 218 = .ok (.ifCond .eq 7, 3) := by decide +kernel
theorem dL_isWell_221 : decode cL_isWell 221 = .ok (.iconst 1, 1) := by decide +kernel
theorem dL_isWell_222 : decode cL_isWell 222 = .ok (.goto 4, 3) := by decide +kernel
theorem dL_isWell_225 : decode cL_isWell 225 = .ok (.iconst 0, 1) := by decide +kernel
theorem dL_isWell_226 : decode cL_isWell 226 = .ok (.iadd, 1) := by decide +kernel
theorem dL_isWell_227 : decode cL_isWell 227 = .ok (.istore 6, 2) := by decide +kernel
theorem dL_isWell_229 : decode cL_isWell 229 = .ok (.iload 7, 2) := by decide +kernel
theorem dL_isWell_231 : decode cL_isWell 231 = .ok (.iload 12, 2) := by decide +kernel
theorem dL_isWell_233 : decode cL_isWell 233 = .ok (.iconst 1, 1) := by decide +kernel
theorem dL_isWell_234 : decode cL_isWell 234 = .ok (.if_icmp .ne 7, 3) := by decide +kernel
theorem dL_isWell_237 : decode cL_isWell 237 = .ok (.iconst 1, 1) := by decide +kernel
theorem dL_isWell_238 : decode cL_isWell 238 = .ok (.goto 4, 3) := by decide +kernel
theorem dL_isWell_241 : decode cL_isWell 241 = .ok (.iconst 0, 1) := by decide +kernel
theorem dL_isWell_242 : decode cL_isWell 242 = .ok (.iadd, 1) := by decide +kernel
theorem dL_isWell_243 : decode cL_isWell 243 = .ok (.istore 7, 2) := by decide +kernel
theorem dL_isWell_245 : decode cL_isWell 245 = .ok (.iload 10, 2) := by decide +kernel
theorem dL_isWell_247 : decode cL_isWell 247 = .ok (.ifCond .eq 108, 3) := by decide +kernel
theorem dL_isWell_250 : decode cL_isWell 250 = .ok (.iload 12, 2) := by decide +kernel
theorem dL_isWell_252 : decode cL_isWell 252 = .ok (.bipush (-5), 2) := by decide +kernel
theorem dL_isWell_254 : decode cL_isWell 254 = .ok (.if_icmp .ne 7, 3) := by decide +kernel
theorem dL_isWell_257 : decode cL_isWell 257 = .ok (.iconst 1, 1) := by decide +kernel
theorem dL_isWell_258 : decode cL_isWell 258 = .ok (.goto 4, 3) := by decide +kernel
theorem dL_isWell_261 : decode cL_isWell 261 = .ok (.iconst 0, 1) := by decide +kernel
theorem dL_isWell_262 : decode cL_isWell 262 = .ok (.iload 13, 2) := by decide +kernel
theorem dL_isWell_264 : decode cL_isWell 264 = .ok (.ifCond .ne 7, 3) := by decide +kernel
theorem dL_isWell_267 : decode cL_isWell 267 = .ok (.iconst 1, 1) := by decide +kernel
theorem dL_isWell_268 : decode cL_isWell 268 = .ok (.goto 4, 3) := by decide +kernel
theorem dL_isWell_271 : decode cL_isWell 271 = .ok (.iconst 0, 1) := by decide +kernel
theorem dL_isWell_272 : decode cL_isWell 272 = .ok (.if_icmp .ne 83, 3) := by decide +kernel
theorem dL_isWell_275 : decode cL_isWell 275 = .ok (.iload 13, 2) := by decide +kernel
theorem dL_isWell_277 : decode cL_isWell 277 = .ok (.ifCond .eq 26, 3) := by decide +kernel
theorem dL_isWell_280 : decode cL_isWell 280 = .ok (.aload_n 0, 1) := by decide +kernel
theorem dL_isWell_281 : decode cL_isWell 281 = .ok (.iload_n 2, 1) := by decide +kernel
theorem dL_isWell_282 : decode cL_isWell 282 = .ok (.aload_n 0, 1) := by decide +kernel
theorem dL_isWell_283 : decode cL_isWell 283 = .ok (.iload 11, 2) := by decide +kernel
theorem dL_isWell_285 : decode cL_isWell 285 = .ok (.iconst 0, 1) := by decide +kernel
theorem dL_isWell_286 : decode cL_isWell 286 = .ok (.invokevirtual 48, 3) := by decide +kernel
theorem dL_isWell_289 : decode cL_isWell 289 = .ok (.aload_n 0, 1) := by decide +kernel
theorem dL_isWell_290 : decode cL_isWell 290 = .ok (.iload 11, 2) := by decide +kernel
theorem dL_isWell_292 : decode cL_isWell 292 = .ok (.iconst 1, 1) := by decide +kernel
theorem dL_isWell_293 : decode cL_isWell 293 = .ok (.invokevirtual 48, 3) := by decide +kernel
theorem dL_isWell_296 : decode cL_isWell 296 = .ok (.invokevirtual 66, 3) := by decide +kernel
theorem dL_isWell_299 : decode cL_isWell 299 = .ok (.iconst 1, 1) := by decide +kernel
theorem dL_isWell_300 : decode cL_isWell 300 = .ok (.if_icmp .ne 55, 3) := by decide +kernel
theorem dL_isWell_303 : decode cL_isWell 303 = .ok (.aload_n 0, 1) := by decide +kernel
theorem dL_isWell_304 : decode cL_isWell 304 = .ok (.iload 11, 2) := by decide +kernel
theorem dL_isWell_306 : decode cL_isWell 306 = .ok (.iconst 5, 1) := by decide +kernel
theorem dL_isWell_307 : decode cL_isWell 307 = .ok (.invokevirtual 48, 3) := by decide +kernel
theorem dL_isWell_310 : decode cL_isWell 310 = .ok (.aload_n 0, 1) := by decide +kernel
theorem dL_isWell_311 : decode cL_isWell 311 = .ok (.iload 11, 2) := by decide +kernel
theorem dL_isWell_313 : decode cL_isWell 313 = .ok (.iconst 3, 1) := by decide +kernel
theorem dL_isWell_314 : decode cL_isWell 314 = .ok (.invokevirtual 48, 3) := by decide +kernel
theorem dL_isWell_317 : decode cL_isWell 317 = .ok (.aload_n 0, 1) := by decide +kernel
theorem dL_isWell_318 : decode cL_isWell 318 = .ok (.iload 11, 2) := by decide +kernel
theorem dL_isWell_320 : decode cL_isWell 320 = .ok (.iconst 2, 1) := by decide +kernel
theorem dL_isWell_321 : decode cL_isWell 321 = .ok (.invokevirtual 48, 3) := by decide +kernel
theorem dL_isWell_324 : decode cL_isWell 324 = .ok (.isub, 1) := by decide +kernel
theorem dL_isWell_325 : decode cL_isWell 325 = .ok (.if_icmp .gt 30, 3) := by decide +kernel
theorem dL_isWell_328 : decode cL_isWell 328 = .ok (.aload_n 0, 1) := by decide +kernel
theorem dL_isWell_329 : decode cL_isWell 329 = .ok (.iload 11, 2) := by decide +kernel
theorem dL_isWell_331 : decode cL_isWell 331 = .ok (.iconst 4, 1) := by decide +kernel
theorem dL_isWell_332 : decode cL_isWell 332 = .ok (.invokevirtual 48, 3) := by decide +kernel
theorem dL_isWell_335 : decode cL_isWell 335 = .ok (.iconst 1, 1) := by decide +kernel
theorem dL_isWell_336 : decode cL_isWell 336 = .ok (.if_icmp .lt 19, 3) := by decide +kernel
theorem dL_isWell_339 : decode cL_isWell 339 = .ok (.aload_n 0, 1) := by decide +kernel
theorem dL_isWell_340 : decode cL_isWell 340 = .ok (.iload 11, 2) := by decide +kernel
theorem dL_isWell_342 : decode cL_isWell 342 = .ok (.iconst 4, 1) := by decide +kernel
theorem dL_isWell_343 : decode cL_isWell 343 = .ok (.invokevirtual 48, 3) := by decide +kernel
theorem dL_isWell_346 : decode cL_isWell 346 = .ok (.bipush 11, 2) := by decide +kernel
theorem dL_isWell_348 : decode cL_isWell 348 = .ok (.if_icmp .gt 7, 3) := by decide +kernel
theorem dL_isWell_351 : decode cL_isWell 351 = .ok (.iconst 1, 1) := by decide +kernel
theorem dL_isWell_352 : decode cL_isWell 352 = .ok (.goto 4, 3) := by decide +kernel
theorem dL_isWell_355 : decode cL_isWell 355 = .ok (.iconst 0, 1) := by decide +kernel
theorem dL_isWell_356 : decode cL_isWell 356 = .ok (.istore 10, 2) := by decide +kernel
theorem dL_isWell_358 : decode cL_isWell 358 = .ok (.iinc 11 1, 3) := by decide +kernel
theorem dL_isWell_361 : decode cL_isWell 361 = .ok (.goto (-192), 3) := by decide +kernel
theorem dL_isWell_364 : decode cL_isWell 364 = .ok (.iconst 0, 1) := by decide +kernel
theorem dL_isWell_365 : decode cL_isWell 365 = .ok (.istore 11, 2) := by decide +kernel
theorem dL_isWell_367 : decode cL_isWell 367 = .ok (.iload 11, 2) := by decide +kernel
theorem dL_isWell_369 : decode cL_isWell 369 = .ok (.bipush 7, 2) := by decide +kernel
theorem dL_isWell_371 : decode cL_isWell 371 = .ok (.if_icmp .ge 124, 3) := by decide +kernel
theorem dL_isWell_374 : decode cL_isWell 374 = .ok (.iload 8, 2) := by decide +kernel
theorem dL_isWell_376 : decode cL_isWell 376 = .ok (.aload_n 0, 1) := by decide +kernel
theorem dL_isWell_377 : decode cL_isWell 377 = .ok (.iload_n 2, 1) := by decide +kernel
theorem dL_isWell_378 : decode cL_isWell 378 = .ok (.iload 11, 2) := by decide +kernel
theorem dL_isWell_380 : decode cL_isWell 380 = .ok (.iconst 3, 1) := by decide +kernel
theorem dL_isWell_381 : decode cL_isWell 381 = .ok (.invokevirtual 54, 3) := by decide +kernel
theorem dL_isWell_384 : decode cL_isWell 384 = .ok (.iadd, 1) := by decide +kernel
theorem dL_isWell_385 : decode cL_isWell 385 = .ok (.istore 8, 2) := by decide +kernel
theorem dL_isWell_387 : decode cL_isWell 387 = .ok (.iload 9, 2) := by decide +kernel
theorem dL_isWell_389 : decode cL_isWell 389 = .ok (.aload_n 0, 1) := by decide +kernel
theorem dL_isWell_390 : decode cL_isWell 390 = .ok (.iload_n 2, 1) := by decide +kernel
theorem dL_isWell_391 : decode cL_isWell 391 = .ok (.iload 11, 2) := by decide +kernel
theorem dL_isWell_393 : decode cL_isWell 393 = .ok (.iconst 2, 1) := by decide +kernel
theorem dL_isWell_394 : decode cL_isWell 394 = .ok (.invokevirtual 54, 3) := by decide +kernel
theorem dL_isWell_397 : decode cL_isWell 397 = .ok (.iadd, 1) := by decide +kernel
theorem dL_isWell_398 : decode cL_isWell 398 = .ok (.istore 9, 2) := by decide +kernel
theorem dL_isWell_400 : decode cL_isWell 400 = .ok (.iload 10, 2) := by decide +kernel
theorem dL_isWell_402 : decode cL_isWell 402 = .ok (.ifCond .eq 84, 3) := by decide +kernel
theorem dL_isWell_405 : decode cL_isWell 405 = .ok (.aload_n 0, 1) := by decide +kernel
theorem dL_isWell_406 : decode cL_isWell 406 = .ok (.iload_n 2, 1) := by decide +kernel
theorem dL_isWell_407 : decode cL_isWell 407 = .ok (.iload 11, 2) := by decide +kernel
theorem dL_isWell_409 : decode cL_isWell 409 = .ok (.iconst 3, 1) := by decide +kernel
theorem dL_isWell_410 : decode cL_isWell 410 = .ok (.invokevirtual 54, 3) := by decide +kernel
theorem dL_isWell_413 : decode cL_isWell 413 = .ok (.aload_n 0, 1) := by decide +kernel
theorem dL_isWell_414 : decode cL_isWell 414 = .ok (.iload_n 2, 1) := by decide +kernel
theorem dL_isWell_415 : decode cL_isWell 415 = .ok (.iload 11, 2) := by decide +kernel
theorem dL_isWell_417 : decode cL_isWell 417 = .ok (.iconst 4, 1) := by decide +kernel
theorem dL_isWell_418 : decode cL_isWell 418 = .ok (.invokevirtual 54, 3) := by decide +kernel
theorem dL_isWell_421 : decode cL_isWell 421 = .ok (.iadd, 1) := by decide +kernel
theorem dL_isWell_422 : decode cL_isWell 422 = .ok (.aload_n 0, 1) := by decide +kernel
theorem dL_isWell_423 : decode cL_isWell 423 = .ok (.iload_n 2, 1) := by decide +kernel
theorem dL_isWell_424 : decode cL_isWell 424 = .ok (.iload 11, 2) := by decide +kernel
theorem dL_isWell_426 : decode cL_isWell 426 = .ok (.iconst 2, 1) := by decide +kernel
theorem dL_isWell_427 : decode cL_isWell 427 = .ok (.invokevirtual 54, 3) := by decide +kernel
theorem dL_isWell_430 : decode cL_isWell 430 = .ok (.if_icmp .ne 56, 3) := by decide +kernel
theorem dL_isWell_433 : decode cL_isWell 433 = .ok (.aload_n 0, 1) := by decide +kernel
theorem dL_isWell_434 : decode cL_isWell 434 = .ok (.iload_n 2, 1) := by decide +kernel
theorem dL_isWell_435 : decode cL_isWell 435 = .ok (.iload 11, 2) := by decide +kernel
theorem dL_isWell_437 : decode cL_isWell 437 = .ok (.iconst 0, 1) := by decide +kernel
theorem dL_isWell_438 : decode cL_isWell 438 = .ok (.invokevirtual 54, 3) := by decide +kernel
theorem dL_isWell_441 : decode cL_isWell 441 = .ok (.iload_n 2, 1) := by decide +kernel
theorem dL_isWell_442 : decode cL_isWell 442 = .ok (.if_icmp .gt 44, 3) := by decide +kernel
theorem dL_isWell_445 : decode cL_isWell 445 = .ok (.iload_n 2, 1) := by decide +kernel
theorem dL_isWell_446 : decode cL_isWell 446 = .ok (.aload_n 0, 1) := by decide +kernel
theorem dL_isWell_447 : decode cL_isWell 447 = .ok (.iload_n 2, 1) := by decide +kernel
theorem dL_isWell_448 : decode cL_isWell 448 = .ok (.iload 11, 2) := by decide +kernel
theorem dL_isWell_450 : decode cL_isWell 450 = .ok (.iconst 0, 1) := by decide +kernel
theorem dL_isWell_451 : decode cL_isWell 451 = .ok (.invokevirtual 54, 3) := by decide +kernel
theorem dL_isWell_454 : decode cL_isWell 454 = .ok (.aload_n 0, 1) := by decide +kernel
theorem dL_isWell_455 : decode cL_isWell 455 = .ok (.iload_n 2, 1) := by decide +kernel
theorem dL_isWell_456 : decode cL_isWell 456 = .ok (.iload 11, 2) := by decide +kernel
theorem dL_isWell_458 : decode cL_isWell 458 = .ok (.iconst 1, 1) := by decide +kernel
theorem dL_isWell_459 : decode cL_isWell 459 = .ok (.invokevirtual 54, 3) := by decide +kernel
theorem dL_isWell_462 : decode cL_isWell 462 = .ok (.iadd, 1) := by decide +kernel
theorem dL_isWell_463 : decode cL_isWell 463 = .ok (.if_icmp .ge 23, 3) := by decide +kernel
theorem dL_isWell_466 : decode cL_isWell 466 = .ok (.aload_n 0, 1) := by decide +kernel
theorem dL_isWell_467 : decode cL_isWell 467 = .ok (.iload_n 2, 1) := by decide +kernel
theorem dL_isWell_468 : decode cL_isWell 468 = .ok (.iload 11, 2) := by decide +kernel
theorem dL_isWell_470 : decode cL_isWell 470 = .ok (.iconst 1, 1) := by decide +kernel
theorem dL_isWell_471 : decode cL_isWell 471 = .ok (.invokevirtual 54, 3) := by decide +kernel
theorem dL_isWell_474 : decode cL_isWell 474 = .ok (.bipush 64, 2) := by decide +kernel
theorem dL_isWell_476 : decode cL_isWell 476 = .ok (.iload 11, 2) := by decide +kernel
theorem dL_isWell_478 : decode cL_isWell 478 = .ok (.ishr, 1) := by decide +kernel
theorem dL_isWell_479 : decode cL_isWell 479 = .ok (.if_icmp .ne 7, 3) := by decide +kernel
theorem dL_isWell_482 : decode cL_isWell 482 = .ok (.iconst 1, 1) := by decide +kernel
theorem dL_isWell_483 : decode cL_isWell 483 = .ok (.goto 4, 3) := by decide +kernel
theorem dL_isWell_486 : decode cL_isWell 486 = .ok (.iconst 0, 1) := by decide +kernel
theorem dL_isWell_487 : decode cL_isWell 487 = .ok (.istore 10, 2) := by decide +kernel
theorem dL_isWell_489 : decode cL_isWell 489 = .ok (.iinc 11 1, 3) := by decide +kernel
theorem dL_isWell_492 : decode cL_isWell 492 = .ok (.goto (-125), 3) := by decide +kernel
theorem dL_isWell_495 : decode cL_isWell 495 = .ok (.iload 10, 2) := by decide +kernel
theorem dL_isWell_497 : decode cL_isWell 497 = .ok (.ifCond .eq 119, 3) := by decide +kernel
theorem dL_isWell_500 : decode cL_isWell 500 = .ok (.iload 6, 2) := by decide +kernel
theorem dL_isWell_502 : decode cL_isWell 502 = .ok (.aload_n 0, 1) := by decide +kernel
theorem dL_isWell_503 : decode cL_isWell 503 = .ok (.iload_n 2, 1) := by decide +kernel
theorem dL_isWell_504 : decode cL_isWell 504 = .ok (.iconst 0, 1) := by decide +kernel
theorem dL_isWell_505 : decode cL_isWell 505 = .ok (.invokevirtual 32, 3) := by decide +kernel
theorem dL_isWell_508 : decode cL_isWell 508 = .ok (.if_icmp .ne 108, 3) := by decide +kernel
theorem dL_isWell_511 : decode cL_isWell 511 = .ok (.iload 9, 2) := by decide +kernel
theorem dL_isWell_513 : decode cL_isWell 513 = .ok (.iload 6, 2) := by decide +kernel
theorem dL_isWell_515 : decode cL_isWell 515 = .ok (.if_icmp .ne 101, 3) := by decide +kernel
theorem dL_isWell_518 : decode cL_isWell 518 = .ok (.iload 7, 2) := by decide +kernel
theorem dL_isWell_520 : decode cL_isWell 520 = .ok (.aload_n 0, 1) := by decide +kernel
theorem dL_isWell_521 : decode cL_isWell 521 = .ok (.iload_n 2, 1) := by decide +kernel
theorem dL_isWell_522 : decode cL_isWell 522 = .ok (.iconst 4, 1) := by decide +kernel
theorem dL_isWell_523 : decode cL_isWell 523 = .ok (.invokevirtual 32, 3) := by decide +kernel
theorem dL_isWell_526 : decode cL_isWell 526 = .ok (.if_icmp .ne 90, 3) := by decide +kernel
theorem dL_isWell_529 : decode cL_isWell 529 = .ok (.iload 8, 2) := by decide +kernel
theorem dL_isWell_531 : decode cL_isWell 531 = .ok (.bipush 16, 2) := by decide +kernel
theorem dL_isWell_533 : decode cL_isWell 533 = .ok (.aload_n 0, 1) := by decide +kernel
theorem dL_isWell_534 : decode cL_isWell 534 = .ok (.iload_n 2, 1) := by decide +kernel
theorem dL_isWell_535 : decode cL_isWell 535 = .ok (.iconst 1, 1) := by decide +kernel
theorem dL_isWell_536 : decode cL_isWell 536 = .ok (.invokevirtual 32, 3) := by decide +kernel
theorem dL_isWell_539 : decode cL_isWell 539 = .ok (.isub, 1) := by decide +kernel
theorem dL_isWell_540 : decode cL_isWell 540 = .ok (.if_icmp .ne 76, 3) := by decide +kernel
theorem dL_isWell_543 : decode cL_isWell 543 = .ok (.iload 7, 2) := by decide +kernel
theorem dL_isWell_545 : decode cL_isWell 545 = .ok (.iload 8, 2) := by decide +kernel
theorem dL_isWell_547 : decode cL_isWell 547 = .ok (.if_icmp .gt 69, 3) := by decide +kernel
theorem dL_isWell_550 : decode cL_isWell 550 = .ok (.iload 8, 2) := by decide +kernel
theorem dL_isWell_552 : decode cL_isWell 552 = .ok (.aload_n 0, 1) := by decide +kernel
theorem dL_isWell_553 : decode cL_isWell 553 = .ok (.iconst 3, 1) := by decide +kernel
theorem dL_isWell_554 : decode cL_isWell 554 = .ok (.invokevirtual 9, 3) := by decide +kernel
theorem dL_isWell_557 : decode cL_isWell 557 = .ok (.if_icmp .gt 59, 3) := by decide +kernel
theorem dL_isWell_560 : decode cL_isWell 560 = .ok (.aload_n 0, 1) := by decide +kernel
theorem dL_isWell_561 : decode cL_isWell 561 = .ok (.iload_n 2, 1) := by decide +kernel
theorem dL_isWell_562 : decode cL_isWell 562 = .ok (.iconst 2, 1) := by decide +kernel
theorem dL_isWell_563 : decode cL_isWell 563 = .ok (.invokevirtual 32, 3) := by decide +kernel
theorem dL_isWell_566 : decode cL_isWell 566 = .ok (.ifCond .eq 12, 3) := by decide +kernel
theorem dL_isWell_569 : decode cL_isWell 569 = .ok (.iload 6, 2) := by decide +kernel
theorem dL_isWell_571 : decode cL_isWell 571 = .ok (.iload 8, 2) := by decide +kernel
theorem dL_isWell_573 : decode cL_isWell 573 = .ok (.isub, 1) := by decide +kernel
theorem dL_isWell_574 : decode cL_isWell 574 = .ok (.iconst 1, 1) := by decide +kernel
theorem dL_isWell_575 : decode cL_isWell 575 = .ok (.if_icmp .lt 41, 3) := by decide +kernel
theorem dL_isWell_578 : decode cL_isWell 578 = .ok (.aload_n 0, 1) := by decide +kernel
theorem dL_isWell_579 : decode cL_isWell 579 = .ok (.iload_n 2, 1) := by decide +kernel
theorem dL_isWell_580 : decode cL_isWell 580 = .ok (.iconst 5, 1) := by decide +kernel
theorem dL_isWell_581 : decode cL_isWell 581 = .ok (.invokevirtual 32, 3) := by decide +kernel
theorem dL_isWell_584 : decode cL_isWell 584 = .ok (.aload_n 0, 1) := by decide +kernel
theorem dL_isWell_585 : decode cL_isWell 585 = .ok (.iload_n 2, 1) := by decide +kernel
theorem dL_isWell_586 : decode cL_isWell 586 = .ok (.iconst 3, 1) := by decide +kernel
theorem dL_isWell_587 : decode cL_isWell 587 = .ok (.invokevirtual 32, 3) := by decide +kernel
theorem dL_isWell_590 : decode cL_isWell 590 = .ok (.iadd, 1) := by decide +kernel
theorem dL_isWell_591 : decode cL_isWell 591 = .ok (.bipush 16, 2) := by decide +kernel
theorem dL_isWell_593 : decode cL_isWell 593 = .ok (.aload_n 0, 1) := by decide +kernel
theorem dL_isWell_594 : decode cL_isWell 594 = .ok (.iload_n 2, 1) := by decide +kernel
theorem dL_isWell_595 : decode cL_isWell 595 = .ok (.iconst 3, 1) := by decide +kernel
theorem dL_isWell_596 : decode cL_isWell 596 = .ok (.invokevirtual 32, 3) := by decide +kernel
theorem dL_isWell_599 : decode cL_isWell 599 = .ok (.iconst 1, 1) := by decide +kernel
theorem dL_isWell_600 : decode cL_isWell 600 = .ok (.if_icmp .ne 7, 3) := by decide +kernel
theorem dL_isWell_603 : decode cL_isWell 603 = .ok (.iconst 1, 1) := by decide +kernel
theorem dL_isWell_604 : decode cL_isWell 604 = .ok (.goto 4, 3) := by decide +kernel
theorem dL_isWell_607 : decode cL_isWell 607 = .ok (.iconst 0, 1) := by decide +kernel
theorem dL_isWell_608 : decode cL_isWell 608 = .ok (.iadd, 1) := by decide +kernel
theorem dL_isWell_609 : decode cL_isWell 609 = .ok (.if_icmp .gt 7, 3) := by decide +kernel
theorem dL_isWell_612 : decode cL_isWell 612 = .ok (.iconst 1, 1) := by decide +kernel
theorem dL_isWell_613 : decode cL_isWell 613 = .ok (.goto 4, 3) := by decide +kernel
theorem dL_isWell_616 : decode cL_isWell 616 = .ok (.iconst 0, 1) := by decide +kernel
theorem dL_isWell_617 : decode cL_isWell 617 = .ok (.istore 10, 2) := by decide +kernel
theorem dL_isWell_619 : decode cL_isWell 619 = .ok (.aload_n 0, 1) := by decide +kernel
theorem dL_isWell_620 : decode cL_isWell 620 = .ok (.iload_n 3, 1) := by decide +kernel
theorem dL_isWell_621 : decode cL_isWell 621 = .ok (.iload 4, 2) := by decide +kernel
theorem dL_isWell_623 : decode cL_isWell 623 = .ok (.iconst 3, 1) := by decide +kernel
theorem dL_isWell_624 : decode cL_isWell 624 = .ok (.invokevirtual 57, 3) := by decide +kernel
theorem dL_isWell_627 : decode cL_isWell 627 = .ok (.istore 11, 2) := by decide +kernel
theorem dL_isWell_629 : decode cL_isWell 629 = .ok (.aload_n 0, 1) := by decide +kernel
theorem dL_isWell_630 : decode cL_isWell 630 = .ok (.iload_n 3, 1) := by decide +kernel
theorem dL_isWell_631 : decode cL_isWell 631 = .ok (.iload 4, 2) := by decide +kernel
theorem dL_isWell_633 : decode cL_isWell 633 = .ok (.iconst 4, 1) := by decide +kernel
theorem dL_isWell_634 : decode cL_isWell 634 = .ok (.invokevirtual 57, 3) := by decide +kernel
theorem dL_isWell_637 : decode cL_isWell 637 = .ok (.istore 12, 2) := by decide +kernel
theorem dL_isWell_639 : decode cL_isWell 639 = .ok (.iload 10, 2) := by decide +kernel
theorem dL_isWell_641 : decode cL_isWell 641 = .ok (.ifCond .eq 85, 3) := by decide +kernel
theorem dL_isWell_644 : decode cL_isWell 644 = .ok (.iload 11, 2) := by decide +kernel
theorem dL_isWell_646 : decode cL_isWell 646 = .ok (.aload_n 0, 1) := by decide +kernel
theorem dL_isWell_647 : decode cL_isWell 647 = .ok (.iload_n 3, 1) := by decide +kernel
theorem dL_isWell_648 : decode cL_isWell 648 = .ok (.iload 4, 2) := by decide +kernel
theorem dL_isWell_650 : decode cL_isWell 650 = .ok (.iconst 0, 1) := by decide +kernel
theorem dL_isWell_651 : decode cL_isWell 651 = .ok (.invokevirtual 57, 3) := by decide +kernel
theorem dL_isWell_654 : decode cL_isWell 654 = .ok (.if_icmp .gt 72, 3) := by decide +kernel
theorem dL_isWell_657 : decode cL_isWell 657 = .ok (.iload 11, 2) := by decide +kernel
theorem dL_isWell_659 : decode cL_isWell 659 = .ok (.ifCond .ne 13, 3) := by decide +kernel
theorem dL_isWell_662 : decode cL_isWell 662 = .ok (.iload 12, 2) := by decide +kernel
theorem dL_isWell_664 : decode cL_isWell 664 = .ok (.bipush (-5), 2) := by decide +kernel
theorem dL_isWell_666 : decode cL_isWell 666 = .ok (.if_icmp .ne 60, 3) := by decide +kernel
theorem dL_isWell_669 : decode cL_isWell 669 = .ok (.goto 53, 3) := by decide +kernel
theorem dL_isWell_672 : decode cL_isWell 672 = .ok (.aload_n 0, 1) := by decide +kernel
theorem dL_isWell_673 : decode cL_isWell 673 = .ok (.iload 12, 2) := by decide +kernel
theorem dL_isWell_675 : decode cL_isWell 675 = .ok (.iload_n 3, 1) := by decide +kernel
theorem dL_isWell_676 : decode cL_isWell 676 = .ok (.iload 4, 2) := by decide +kernel
theorem dL_isWell_678 : decode cL_isWell 678 = .ok (.invokevirtual 66, 3) := by decide +kernel
theorem dL_isWell_681 : decode cL_isWell 681 = .ok (.iconst 1, 1) := by decide +kernel
theorem dL_isWell_682 : decode cL_isWell 682 = .ok (.if_icmp .ne 44, 3) := by decide +kernel
theorem dL_isWell_685 : decode cL_isWell 685 = .ok (.aload_n 0, 1) := by decide +kernel
theorem dL_isWell_686 : decode cL_isWell 686 = .ok (.iload 12, 2) := by decide +kernel
theorem dL_isWell_688 : decode cL_isWell 688 = .ok (.iload 11, 2) := by decide +kernel
theorem dL_isWell_690 : decode cL_isWell 690 = .ok (.iadd, 1) := by decide +kernel
theorem dL_isWell_691 : decode cL_isWell 691 = .ok (.iconst 1, 1) := by decide +kernel
theorem dL_isWell_692 : decode cL_isWell 692 = .ok (.isub, 1) := by decide +kernel
theorem dL_isWell_693 : decode cL_isWell 693 = .ok (.iload_n 3, 1) := by decide +kernel
theorem dL_isWell_694 : decode cL_isWell 694 = .ok (.iload 4, 2) := by decide +kernel
theorem dL_isWell_696 : decode cL_isWell 696 = .ok (.invokevirtual 66, 3) := by decide +kernel
theorem dL_isWell_699 : decode cL_isWell 699 = .ok (.iconst 1, 1) := by decide +kernel
theorem dL_isWell_700 : decode cL_isWell 700 = .ok (.if_icmp .ne 26, 3) := by decide +kernel
theorem dL_isWell_703 : decode cL_isWell 703 = .ok (.iload 12, 2) := by decide +kernel
theorem dL_isWell_705 : decode cL_isWell 705 = .ok (.ifCond .eq 17, 3) := by decide +kernel
theorem dL_isWell_708 : decode cL_isWell 708 = .ok (.aload_n 0, 1) := by decide +kernel
theorem dL_isWell_709 : decode cL_isWell 709 = .ok (.iload 12, 2) := by decide +kernel
theorem dL_isWell_711 : decode cL_isWell 711 = .ok (.iconst 1, 1) := by decide +kernel
theorem dL_isWell_712 : decode cL_isWell 712 = .ok (.isub, 1) := by decide +kernel
theorem dL_isWell_713 : decode cL_isWell 713 = .ok (.iload_n 3, 1) := by decide +kernel
theorem dL_isWell_714 : decode cL_isWell 714 = .ok (.iload 4, 2) := by decide +kernel
theorem dL_isWell_716 : decode cL_isWell 716 = .ok (.invokevirtual 66, 3) := by decide +kernel
theorem dL_isWell_719 : decode cL_isWell 719 = .ok (.ifCond .ne 7, 3) := by decide +kernel
theorem dL_isWell_722 : decode cL_isWell 722 = .ok (.iconst 1, 1) := by decide +kernel
theorem dL_isWell_723 : decode cL_isWell 723 = .ok (.goto 4, 3) := by decide +kernel
theorem dL_isWell_726 : decode cL_isWell 726 = .ok (.iconst 0, 1) := by decide +kernel
theorem dL_isWell_727 : decode cL_isWell 727 = .ok (.istore 10, 2) := by decide +kernel
theorem dL_isWell_729 : decode cL_isWell 729 = .ok (.aload_n 0, 1) := by decide +kernel
theorem dL_isWell_730 : decode cL_isWell 730 = .ok (.iload_n 2, 1) := by decide +kernel
theorem dL_isWell_731 : decode cL_isWell 731 = .ok (.invokevirtual 69, 3) := by decide +kernel
theorem dL_isWell_734 : decode cL_isWell 734 = .ok (.istore 13, 2) := by decide +kernel
theorem dL_isWell_736 : decode cL_isWell 736 = .ok (.iload 10, 2) := by decide +kernel
theorem dL_isWell_738 : decode cL_isWell 738 = .ok (.ifCond .eq 101, 3) := by decide +kernel
theorem dL_isWell_741 : decode cL_isWell 741 = .ok (.iload 13, 2) := by decide +kernel
theorem dL_isWell_743 : decode cL_isWell 743 = .ok (.bipush (-5), 2) := by decide +kernel
theorem dL_isWell_745 : decode cL_isWell 745 = .ok (.if_icmp .ne 15, 3) := by decide +kernel
theorem dL_isWell_748 : decode cL_isWell 748 = .ok (.aload_n 0, 1) := by decide +kernel
theorem dL_isWell_749 : decode cL_isWell 749 = .ok (.iload_n 2, 1) := by decide +kernel
theorem dL_isWell_750 : decode cL_isWell 750 = .ok (.iconst 2, 1) := by decide +kernel
theorem dL_isWell_751 : decode cL_isWell 751 = .ok (.invokevirtual 32, 3) := by decide +kernel
theorem dL_isWell_754 : decode cL_isWell 754 = .ok (.ifCond .ne 85, 3) := by decide +kernel
theorem dL_isWell_757 : decode cL_isWell 757 = .ok (.goto 49, 3) := by decide +kernel
theorem dL_isWell_760 : decode cL_isWell 760 = .ok (.iload 13, 2) := by decide +kernel
theorem dL_isWell_762 : decode cL_isWell 762 = .ok (.iload_n 2, 1) := by decide +kernel
theorem dL_isWell_763 : decode cL_isWell 763 = .ok (.if_icmp .lt 76, 3) := by decide +kernel
theorem dL_isWell_766 : decode cL_isWell 766 = .ok (.aload_n 0, 1) := by decide +kernel
theorem dL_isWell_767 : decode cL_isWell 767 = .ok (.iload 13, 2) := by decide +kernel
theorem dL_isWell_769 : decode cL_isWell 769 = .ok (.iconst 2, 1) := by decide +kernel
theorem dL_isWell_770 : decode cL_isWell 770 = .ok (.invokevirtual 32, 3) := by decide +kernel
theorem dL_isWell_773 : decode cL_isWell 773 = .ok (.iconst 1, 1) := by decide +kernel
theorem dL_isWell_774 : decode cL_isWell 774 = .ok (.if_icmp .ne 65, 3) := by decide +kernel
theorem dL_isWell_777 : decode cL_isWell 777 = .ok (.iload 13, 2) := by decide +kernel
theorem dL_isWell_779 : decode cL_isWell 779 = .ok (.iload_n 2, 1) := by decide +kernel
theorem dL_isWell_780 : decode cL_isWell 780 = .ok (.if_icmp .ne 7, 3) := by decide +kernel
theorem dL_isWell_783 : decode cL_isWell 783 = .ok (.iconst 1, 1) := by decide +kernel
theorem dL_isWell_784 : decode cL_isWell 784 = .ok (.goto 4, 3) := by decide +kernel
theorem dL_isWell_787 : decode cL_isWell 787 = .ok (.iconst 0, 1) := by decide +kernel
theorem dL_isWell_788 : decode cL_isWell 788 = .ok (.aload_n 0, 1) := by decide +kernel
theorem dL_isWell_789 : decode cL_isWell 789 = .ok (.iload_n 2, 1) := by decide +kernel
theorem dL_isWell_790 : decode cL_isWell 790 = .ok (.iconst 2, 1) := by decide +kernel
theorem dL_isWell_791 : decode cL_isWell 791 = .ok (.invokevirtual 32, 3) := by decide +kernel
theorem dL_isWell_794 : decode cL_isWell 794 = .ok (.iconst 1, 1) := by decide +kernel
theorem dL_isWell_795 : decode cL_isWell 795 = .ok (.if_icmp .ne 7, 3) := by decide +kernel
theorem dL_isWell_798 : decode cL_isWell 798 = .ok (.iconst 1, 1) := by decide +kernel
theorem dL_isWell_799 : decode cL_isWell 799 = .ok (.goto 4, 3) := by decide +kernel
theorem dL_isWell_802 : decode cL_isWell 802 = .ok (.iconst 0, 1) := by decide +kernel
theorem dL_isWell_803 : decode cL_isWell 803 = .ok (.if_icmp .ne 36, 3) := by decide +kernel
theorem dL_isWell_806 : decode cL_isWell 806 = .ok (.aload_n 0, 1) := by decide +kernel
theorem dL_isWell_807 : decode cL_isWell 807 = .ok (.iload_n 2, 1) := by decide +kernel
theorem dL_isWell_808 : decode cL_isWell 808 = .ok (.iconst 1, 1) := by decide +kernel
theorem dL_isWell_809 : decode cL_isWell 809 = .ok (.invokevirtual 32, 3) := by decide +kernel
theorem dL_isWell_812 : decode cL_isWell 812 = .ok (.aload_n 0, 1) := by decide +kernel
theorem dL_isWell_813 : decode cL_isWell 813 = .ok (.iconst 5, 1) := by decide +kernel
theorem dL_isWell_814 : decode cL_isWell 814 = .ok (.invokevirtual 9, 3) := by decide +kernel
theorem dL_isWell_817 : decode cL_isWell 817 = .ok (.if_icmp .gt 22, 3) := by decide +kernel
theorem dL_isWell_820 : decode cL_isWell 820 = .ok (.aload_n 0, 1) := by decide +kernel
theorem dL_isWell_821 : decode cL_isWell 821 = .ok (.iload_n 2, 1) := by decide +kernel
theorem dL_isWell_822 : decode cL_isWell 822 = .ok (.iconst 1, 1) := by decide +kernel
theorem dL_isWell_823 : decode cL_isWell 823 = .ok (.invokevirtual 32, 3) := by decide +kernel
theorem dL_isWell_826 : decode cL_isWell 826 = .ok (.aload_n 0, 1) := by decide +kernel
theorem dL_isWell_827 : decode cL_isWell 827 = .ok (.bipush 6, 2) := by decide +kernel
theorem dL_isWell_829 : decode cL_isWell 829 = .ok (.invokevirtual 9, 3) := by decide +kernel
theorem dL_isWell_832 : decode cL_isWell 832 = .ok (.if_icmp .lt 7, 3) := by decide +kernel
theorem dL_isWell_835 : decode cL_isWell 835 = .ok (.iconst 1, 1) := by decide +kernel
theorem dL_isWell_836 : decode cL_isWell 836 = .ok (.goto 4, 3) := by decide +kernel
theorem dL_isWell_839 : decode cL_isWell 839 = .ok (.iconst 0, 1) := by decide +kernel
theorem dL_isWell_840 : decode cL_isWell 840 = .ok (.ireturn, 1) := by decide +kernel
theorem dL_law_0 : decode code 0 = .ok (.new 10, 3) := by decide +kernel
theorem dL_law_3 : decode code 3 = .ok (.dup, 1) := by decide +kernel
theorem dL_law_4 : decode code 4 = .ok (.invokespecial 72, 3) := by decide +kernel
theorem dL_law_7 : decode code 7 = .ok (.astore_n 1, 1) := by decide +kernel
theorem dL_law_8 : decode code 8 = .ok (.new 10, 3) := by decide +kernel
theorem dL_law_11 : decode code 11 = .ok (.dup, 1) := by decide +kernel
theorem dL_law_12 : decode code 12 = .ok (.invokespecial 72, 3) := by decide +kernel
theorem dL_law_15 : decode code 15 = .ok (.astore_n 2, 1) := by decide +kernel
theorem dL_law_16 : decode code 16 = .ok (.aload_n 0, 1) := by decide +kernel
theorem dL_law_17 : decode code 17 = .ok (.iconst 0, 1) := by decide +kernel
theorem dL_law_18 : decode code 18 = .ok (.invokestatic 73, 3) := by decide +kernel
theorem dL_law_21 : decode code 21 = .ok (.bipush 16, 2) := by decide +kernel
theorem dL_law_23 : decode code 23 = .ok (.invokestatic 15, 3) := by decide +kernel
theorem dL_law_26 : decode code 26 = .ok (.istore_n 3, 1) := by decide +kernel
theorem dL_law_27 : decode code 27 = .ok (.iconst 1, 1) := by decide +kernel
theorem dL_law_28 : decode code 28 = .ok (.istore 4, 2) := by decide +kernel
theorem dL_law_30 : decode code 30 = .ok (.iconst 1, 1) := by decide +kernel
theorem dL_law_31 : decode code 31 = .ok (.istore 5, 2) := by decide +kernel
theorem dL_law_33 : decode code 33 = .ok (.iload 5, 2) := by decide +kernel
theorem dL_law_35 : decode code 35 = .ok (.bipush 44, 2) := by decide +kernel
theorem dL_law_37 : decode code 37 = .ok (.if_icmp .ge 69, 3) := by decide +kernel
theorem dL_law_40 : decode code 40 = .ok (.iload 4, 2) := by decide +kernel
theorem dL_law_42 : decode code 42 = .ok (.ifCond .eq 64, 3) := by decide +kernel
theorem dL_law_45 : decode code 45 = .ok (.aload_n 1, 1) := by decide +kernel
theorem dL_law_46 : decode code 46 = .ok (.aload_n 2, 1) := by decide +kernel
theorem dL_law_47 : decode code 47 = .ok (.iload_n 3, 1) := by decide +kernel
theorem dL_law_48 : decode code 48 = .ok (.aload_n 0, 1) := by decide +kernel
theorem dL_law_49 : decode code 49 = .ok (.iload 5, 2) := by decide +kernel
theorem dL_law_51 : decode code 51 = .ok (.invokestatic 73, 3) := by decide +kernel
theorem dL_law_54 : decode code 54 = .ok (.aload_n 0, 1) := by decide +kernel
theorem dL_law_55 : decode code 55 = .ok (.iload 5, 2) := by decide +kernel
theorem dL_law_57 : decode code 57 = .ok (.iconst 1, 1) := by decide +kernel
theorem dL_law_58 : decode code 58 = .ok (.iadd, 1) := by decide +kernel
theorem dL_law_59 : decode code 59 = .ok (.invokestatic 73, 3) := by decide +kernel
theorem dL_law_62 : decode code 62 = .ok (.iconst 2, 1) := by decide +kernel
theorem dL_law_63 : decode code 63 = .ok (.ishr, 1) := by decide +kernel
theorem dL_law_64 : decode code 64 = .ok (.invokestatic 77, 3) := by decide +kernel
theorem dL_law_67 : decode code 67 = .ok (.ifCond .eq 30, 3) := by decide +kernel
theorem dL_law_70 : decode code 70 = .ok (.iload 5, 2) := by decide +kernel
theorem dL_law_72 : decode code 72 = .ok (.iconst 5, 1) := by decide +kernel
theorem dL_law_73 : decode code 73 = .ok (.irem, 1) := by decide +kernel
theorem dL_law_74 : decode code 74 = .ok (.ifCond .gt 19, 3) := by decide +kernel
theorem dL_law_77 : decode code 77 = .ok (.aload_n 1, 1) := by decide +kernel
theorem dL_law_78 : decode code 78 = .ok (.aload_n 0, 1) := by decide +kernel
theorem dL_law_79 : decode code 79 = .ok (.iload 5, 2) := by decide +kernel
theorem dL_law_81 : decode code 81 = .ok (.invokestatic 73, 3) := by decide +kernel
theorem dL_law_84 : decode code 84 = .ok (.bipush 6, 2) := by decide +kernel
theorem dL_law_86 : decode code 86 = .ok (.ishr, 1) := by decide +kernel
theorem dL_law_87 : decode code 87 = .ok (.invokestatic 81, 3) := by decide +kernel
theorem dL_law_90 : decode code 90 = .ok (.ifCond .eq 7, 3) := by decide +kernel
theorem dL_law_93 : decode code 93 = .ok (.iconst 1, 1) := by decide +kernel
theorem dL_law_94 : decode code 94 = .ok (.goto 4, 3) := by decide +kernel
theorem dL_law_97 : decode code 97 = .ok (.iconst 0, 1) := by decide +kernel
theorem dL_law_98 : decode code 98 = .ok (.istore 4, 2) := by decide +kernel
theorem dL_law_100 : decode code 100 = .ok (.iinc 5 1, 3) := by decide +kernel
theorem dL_law_103 : decode code 103 = .ok (.goto (-70), 3) := by decide +kernel
theorem dL_law_106 : decode code 106 = .ok (.iload 4, 2) := by decide +kernel
theorem dL_law_108 : decode code 108 = .ok (.ifCond .eq 50, 3) := by decide +kernel
theorem dL_law_111 : decode code 111 = .ok (.aload_n 1, 1) := by decide +kernel
theorem dL_law_112 : decode code 112 = .ok (.aload_n 2, 1) := by decide +kernel
theorem dL_law_113 : decode code 113 = .ok (.iload_n 3, 1) := by decide +kernel
theorem dL_law_114 : decode code 114 = .ok (.aload_n 0, 1) := by decide +kernel
theorem dL_law_115 : decode code 115 = .ok (.bipush 45, 2) := by decide +kernel
theorem dL_law_117 : decode code 117 = .ok (.invokestatic 73, 3) := by decide +kernel
theorem dL_law_120 : decode code 120 = .ok (.invokestatic 85, 3) := by decide +kernel
theorem dL_law_123 : decode code 123 = .ok (.ifCond .eq 35, 3) := by decide +kernel
theorem dL_law_126 : decode code 126 = .ok (.aload_n 1, 1) := by decide +kernel
theorem dL_law_127 : decode code 127 = .ok (.aload_n 2, 1) := by decide +kernel
theorem dL_law_128 : decode code 128 = .ok (.iload_n 3, 1) := by decide +kernel
theorem dL_law_129 : decode code 129 = .ok (.aload_n 0, 1) := by decide +kernel
theorem dL_law_130 : decode code 130 = .ok (.bipush 46, 2) := by decide +kernel
theorem dL_law_132 : decode code 132 = .ok (.invokestatic 73, 3) := by decide +kernel
theorem dL_law_135 : decode code 135 = .ok (.invokestatic 85, 3) := by decide +kernel
theorem dL_law_138 : decode code 138 = .ok (.ifCond .eq 20, 3) := by decide +kernel
theorem dL_law_141 : decode code 141 = .ok (.aload_n 1, 1) := by decide +kernel
theorem dL_law_142 : decode code 142 = .ok (.aload_n 0, 1) := by decide +kernel
theorem dL_law_143 : decode code 143 = .ok (.bipush 47, 2) := by decide +kernel
theorem dL_law_145 : decode code 145 = .ok (.invokestatic 73, 3) := by decide +kernel
theorem dL_law_148 : decode code 148 = .ok (.invokestatic 81, 3) := by decide +kernel
theorem dL_law_151 : decode code 151 = .ok (.ifCond .eq 7, 3) := by decide +kernel
theorem dL_law_154 : decode code 154 = .ok (.iconst 1, 1) := by decide +kernel
theorem dL_law_155 : decode code 155 = .ok (.goto 4, 3) := by decide +kernel
theorem dL_law_158 : decode code 158 = .ok (.iconst 0, 1) := by decide +kernel
theorem dL_law_159 : decode code 159 = .ok (.ireturn, 1) := by decide +kernel

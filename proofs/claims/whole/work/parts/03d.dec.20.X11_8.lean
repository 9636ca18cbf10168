theorem dX11_writePlanes_241 : decode cX11_writePlanes 241 = .ok (.iload 5, 2) := by decide +kernel
theorem dX11_writePlanes_243 : decode cX11_writePlanes 243 = .ok (.iload 6, 2) := by decide +kernel
theorem dX11_writePlanes_245 : decode cX11_writePlanes 245 = .ok (.iload_n 3, 1) := by decide +kernel
theorem dX11_writePlanes_246 : decode cX11_writePlanes 246 = .ok (.invokevirtual 309, 3) := by decide +kernel
theorem dX11_writePlanes_249 : decode cX11_writePlanes 249 = .ok (.iload 8, 2) := by decide +kernel
theorem dX11_writePlanes_251 : decode cX11_writePlanes 251 = .ok (.if_icmp .ne 9, 3) := by decide +kernel
theorem dX11_writePlanes_254 : decode cX11_writePlanes 254 = .ok (.iinc 9 1, 3) := by decide +kernel
theorem dX11_writePlanes_257 : decode cX11_writePlanes 257 = .ok (.goto (-40), 3) := by decide +kernel
theorem dX11_writePlanes_260 : decode cX11_writePlanes 260 = .ok (.iload 9, 2) := by decide +kernel
theorem dX11_writePlanes_262 : decode cX11_writePlanes 262 = .ok (.iconst 1, 1) := by decide +kernel
theorem dX11_writePlanes_263 : decode cX11_writePlanes 263 = .ok (.if_icmp .gt 11, 3) := by decide +kernel
theorem dX11_writePlanes_266 : decode cX11_writePlanes 266 = .ok (.iload 8, 2) := by decide +kernel
theorem dX11_writePlanes_268 : decode cX11_writePlanes 268 = .ok (.sipush 192, 3) := by decide +kernel
theorem dX11_writePlanes_271 : decode cX11_writePlanes 271 = .ok (.if_icmp .lt 13, 3) := by decide +kernel
theorem dX11_writePlanes_274 : decode cX11_writePlanes 274 = .ok (.aload_n 0, 1) := by decide +kernel
theorem dX11_writePlanes_275 : decode cX11_writePlanes 275 = .ok (.sipush 192, 3) := by decide +kernel
theorem dX11_writePlanes_278 : decode cX11_writePlanes 278 = .ok (.iload 9, 2) := by decide +kernel
theorem dX11_writePlanes_280 : decode cX11_writePlanes 280 = .ok (.iadd, 1) := by decide +kernel
theorem dX11_writePlanes_281 : decode cX11_writePlanes 281 = .ok (.invokevirtual 280, 3) := by decide +kernel
theorem dX11_writePlanes_284 : decode cX11_writePlanes 284 = .ok (.aload_n 0, 1) := by decide +kernel
theorem dX11_writePlanes_285 : decode cX11_writePlanes 285 = .ok (.iload 8, 2) := by decide +kernel
theorem dX11_writePlanes_287 : decode cX11_writePlanes 287 = .ok (.invokevirtual 280, 3) := by decide +kernel
theorem dX11_writePlanes_290 : decode cX11_writePlanes 290 = .ok (.iload 7, 2) := by decide +kernel
theorem dX11_writePlanes_292 : decode cX11_writePlanes 292 = .ok (.iload 9, 2) := by decide +kernel
theorem dX11_writePlanes_294 : decode cX11_writePlanes 294 = .ok (.iadd, 1) := by decide +kernel
theorem dX11_writePlanes_295 : decode cX11_writePlanes 295 = .ok (.istore 7, 2) := by decide +kernel
theorem dX11_writePlanes_297 : decode cX11_writePlanes 297 = .ok (.goto (-104), 3) := by decide +kernel
theorem dX11_writePlanes_300 : decode cX11_writePlanes 300 = .ok (.iinc 6 1, 3) := by decide +kernel
theorem dX11_writePlanes_303 : decode cX11_writePlanes 303 = .ok (.goto (-119), 3) := by decide +kernel
theorem dX11_writePlanes_306 : decode cX11_writePlanes 306 = .ok (.iinc 5 1, 3) := by decide +kernel
theorem dX11_writePlanes_309 : decode cX11_writePlanes 309 = .ok (.goto (-139), 3) := by decide +kernel
theorem dX11_writePlanes_312 : decode cX11_writePlanes 312 = .ok (.iload_n 2, 1) := by decide +kernel
theorem dX11_writePlanes_313 : decode cX11_writePlanes 313 = .ok (.bipush 17, 2) := by decide +kernel
theorem dX11_writePlanes_315 : decode cX11_writePlanes 315 = .ok (.if_icmp .ne 75, 3) := by decide +kernel
theorem dX11_writePlanes_318 : decode cX11_writePlanes 318 = .ok (.aload_n 0, 1) := by decide +kernel
theorem dX11_writePlanes_319 : decode cX11_writePlanes 319 = .ok (.bipush 12, 2) := by decide +kernel
theorem dX11_writePlanes_321 : decode cX11_writePlanes 321 = .ok (.invokevirtual 280, 3) := by decide +kernel
theorem dX11_writePlanes_324 : decode cX11_writePlanes 324 = .ok (.iconst 0, 1) := by decide +kernel
theorem dX11_writePlanes_325 : decode cX11_writePlanes 325 = .ok (.istore 5, 2) := by decide +kernel
theorem dX11_writePlanes_327 : decode cX11_writePlanes 327 = .ok (.iload 5, 2) := by decide +kernel
theorem dX11_writePlanes_329 : decode cX11_writePlanes 329 = .ok (.sipush 256, 3) := by decide +kernel
theorem dX11_writePlanes_332 : decode cX11_writePlanes 332 = .ok (.if_icmp .ge 58, 3) := by decide +kernel
theorem dX11_writePlanes_335 : decode cX11_writePlanes 335 = .ok (.iload 5, 2) := by decide +kernel
theorem dX11_writePlanes_337 : decode cX11_writePlanes 337 = .ok (.aload_n 0, 1) := by decide +kernel
theorem dX11_writePlanes_338 : decode cX11_writePlanes 338 = .ok (.getfield 262, 3) := by decide +kernel
theorem dX11_writePlanes_341 : decode cX11_writePlanes 341 = .ok (.if_icmp .ge 13, 3) := by decide +kernel
theorem dX11_writePlanes_344 : decode cX11_writePlanes 344 = .ok (.aload_n 0, 1) := by decide +kernel
theorem dX11_writePlanes_345 : decode cX11_writePlanes 345 = .ok (.getfield 58, 3) := by decide +kernel
theorem dX11_writePlanes_348 : decode cX11_writePlanes 348 = .ok (.iload 5, 2) := by decide +kernel
theorem dX11_writePlanes_350 : decode cX11_writePlanes 350 = .ok (.iaload, 1) := by decide +kernel
theorem dX11_writePlanes_351 : decode cX11_writePlanes 351 = .ok (.goto 4, 3) := by decide +kernel
theorem dX11_writePlanes_354 : decode cX11_writePlanes 354 = .ok (.iconst 0, 1) := by decide +kernel
theorem dX11_writePlanes_355 : decode cX11_writePlanes 355 = .ok (.istore 6, 2) := by decide +kernel
theorem dX11_writePlanes_357 : decode cX11_writePlanes 357 = .ok (.aload_n 0, 1) := by decide +kernel
theorem dX11_writePlanes_358 : decode cX11_writePlanes 358 = .ok (.iload 6, 2) := by decide +kernel
theorem dX11_writePlanes_360 : decode cX11_writePlanes 360 = .ok (.bipush 24, 2) := by decide +kernel
theorem dX11_writePlanes_362 : decode cX11_writePlanes 362 = .ok (.ishr, 1) := by decide +kernel
theorem dX11_writePlanes_363 : decode cX11_writePlanes 363 = .ok (.invokevirtual 280, 3) := by decide +kernel
theorem dX11_writePlanes_366 : decode cX11_writePlanes 366 = .ok (.aload_n 0, 1) := by decide +kernel
theorem dX11_writePlanes_367 : decode cX11_writePlanes 367 = .ok (.iload 6, 2) := by decide +kernel
theorem dX11_writePlanes_369 : decode cX11_writePlanes 369 = .ok (.bipush 16, 2) := by decide +kernel
theorem dX11_writePlanes_371 : decode cX11_writePlanes 371 = .ok (.ishr, 1) := by decide +kernel
theorem dX11_writePlanes_372 : decode cX11_writePlanes 372 = .ok (.invokevirtual 280, 3) := by decide +kernel
theorem dX11_writePlanes_375 : decode cX11_writePlanes 375 = .ok (.aload_n 0, 1) := by decide +kernel
theorem dX11_writePlanes_376 : decode cX11_writePlanes 376 = .ok (.iload 6, 2) := by decide +kernel
theorem dX11_writePlanes_378 : decode cX11_writePlanes 378 = .ok (.bipush 8, 2) := by decide +kernel
theorem dX11_writePlanes_380 : decode cX11_writePlanes 380 = .ok (.ishr, 1) := by decide +kernel
theorem dX11_writePlanes_381 : decode cX11_writePlanes 381 = .ok (.invokevirtual 280, 3) := by decide +kernel
theorem dX11_writePlanes_384 : decode cX11_writePlanes 384 = .ok (.iinc 5 1, 3) := by decide +kernel
theorem dX11_writePlanes_387 : decode cX11_writePlanes 387 = .ok (.goto (-60), 3) := by decide +kernel
theorem dX11_writePlanes_390 : decode cX11_writePlanes 390 = .ok (.return_, 1) := by decide +kernel
theorem dX11_sample_0 : decode cX11_sample 0 = .ok (.iload_n 2, 1) := by decide +kernel
theorem dX11_sample_1 : decode cX11_sample 1 = .ok (.aload_n 0, 1) := by decide +kernel
theorem dX11_sample_2 : decode cX11_sample 2 = .ok (.getfield 21, 3) := by decide +kernel
theorem dX11_sample_5 : decode cX11_sample 5 = .ok (.iload_n 1, 1) := by decide +kernel
theorem dX11_sample_6 : decode cX11_sample 6 = .ok (.iaload, 1) := by decide +kernel
theorem dX11_sample_7 : decode cX11_sample 7 = .ok (.if_icmp .lt 5, 3) := by decide +kernel
theorem dX11_sample_10 : decode cX11_sample 10 = .ok (.iconst 0, 1) := by decide +kernel
theorem dX11_sample_11 : decode cX11_sample 11 = .ok (.ireturn, 1) := by decide +kernel
theorem dX11_sample_12 : decode cX11_sample 12 = .ok (.aload_n 0, 1) := by decide +kernel
theorem dX11_sample_13 : decode cX11_sample 13 = .ok (.iload_n 1, 1) := by decide +kernel
theorem dX11_sample_14 : decode cX11_sample 14 = .ok (.iload_n 2, 1) := by decide +kernel
theorem dX11_sample_15 : decode cX11_sample 15 = .ok (.iload_n 3, 1) := by decide +kernel
theorem dX11_sample_16 : decode cX11_sample 16 = .ok (.invokevirtual 291, 3) := by decide +kernel
theorem dX11_sample_19 : decode cX11_sample 19 = .ok (.istore 6, 2) := by decide +kernel
theorem dX11_sample_21 : decode cX11_sample 21 = .ok (.iload 5, 2) := by decide +kernel
theorem dX11_sample_23 : decode cX11_sample 23 = .ok (.iconst 1, 1) := by decide +kernel
theorem dX11_sample_24 : decode cX11_sample 24 = .ok (.if_icmp .ne 12, 3) := by decide +kernel
theorem dX11_sample_27 : decode cX11_sample 27 = .ok (.aload_n 0, 1) := by decide +kernel
theorem dX11_sample_28 : decode cX11_sample 28 = .ok (.iload 6, 2) := by decide +kernel
theorem dX11_sample_30 : decode cX11_sample 30 = .ok (.invokevirtual 265, 3) := by decide +kernel
theorem dX11_sample_33 : decode cX11_sample 33 = .ok (.goto 18, 3) := by decide +kernel
theorem dX11_sample_36 : decode cX11_sample 36 = .ok (.iload 6, 2) := by decide +kernel
theorem dX11_sample_38 : decode cX11_sample 38 = .ok (.bipush 24, 2) := by decide +kernel
theorem dX11_sample_40 : decode cX11_sample 40 = .ok (.bipush 8, 2) := by decide +kernel
theorem dX11_sample_42 : decode cX11_sample 42 = .ok (.iload 4, 2) := by decide +kernel
theorem dX11_sample_44 : decode cX11_sample 44 = .ok (.imul, 1) := by decide +kernel
theorem dX11_sample_45 : decode cX11_sample 45 = .ok (.isub, 1) := by decide +kernel
theorem dX11_sample_46 : decode cX11_sample 46 = .ok (.ishr, 1) := by decide +kernel
theorem dX11_sample_47 : decode cX11_sample 47 = .ok (.sipush 255, 3) := by decide +kernel
theorem dX11_sample_50 : decode cX11_sample 50 = .ok (.iand, 1) := by decide +kernel
theorem dX11_sample_51 : decode cX11_sample 51 = .ok (.ireturn, 1) := by decide +kernel
theorem dX11_writeFile_0 : decode cX11_writeFile 0 = .ok (.aload_n 0, 1) := by decide +kernel
theorem dX11_writeFile_1 : decode cX11_writeFile 1 = .ok (.iconst 0, 1) := by decide +kernel
theorem dX11_writeFile_2 : decode cX11_writeFile 2 = .ok (.putfield 75, 3) := by decide +kernel
theorem dX11_writeFile_5 : decode cX11_writeFile 5 = .ok (.aload_n 0, 1) := by decide +kernel
theorem dX11_writeFile_6 : decode cX11_writeFile 6 = .ok (.iconst 1, 1) := by decide +kernel
theorem dX11_writeFile_7 : decode cX11_writeFile 7 = .ok (.putfield 71, 3) := by decide +kernel
theorem dX11_writeFile_10 : decode cX11_writeFile 10 = .ok (.iload_n 2, 1) := by decide +kernel
theorem dX11_writeFile_11 : decode cX11_writeFile 11 = .ok (.ifCond .ne 11, 3) := by decide +kernel
theorem dX11_writeFile_14 : decode cX11_writeFile 14 = .ok (.aload_n 0, 1) := by decide +kernel
theorem dX11_writeFile_15 : decode cX11_writeFile 15 = .ok (.iload_n 1, 1) := by decide +kernel
theorem dX11_writeFile_16 : decode cX11_writeFile 16 = .ok (.invokevirtual 313, 3) := by decide +kernel
theorem dX11_writeFile_19 : decode cX11_writeFile 19 = .ok (.goto 54, 3) := by decide +kernel
theorem dX11_writeFile_22 : decode cX11_writeFile 22 = .ok (.iload_n 2, 1) := by decide +kernel
theorem dX11_writeFile_23 : decode cX11_writeFile 23 = .ok (.bipush 7, 2) := by decide +kernel
theorem dX11_writeFile_25 : decode cX11_writeFile 25 = .ok (.if_icmp .ge 12, 3) := by decide +kernel
theorem dX11_writeFile_28 : decode cX11_writeFile 28 = .ok (.aload_n 0, 1) := by decide +kernel
theorem dX11_writeFile_29 : decode cX11_writeFile 29 = .ok (.iload_n 1, 1) := by decide +kernel
theorem dX11_writeFile_30 : decode cX11_writeFile 30 = .ok (.iload_n 2, 1) := by decide +kernel
theorem dX11_writeFile_31 : decode cX11_writeFile 31 = .ok (.invokevirtual 316, 3) := by decide +kernel
theorem dX11_writeFile_34 : decode cX11_writeFile 34 = .ok (.goto 39, 3) := by decide +kernel
theorem dX11_writeFile_37 : decode cX11_writeFile 37 = .ok (.iload_n 2, 1) := by decide +kernel
theorem dX11_writeFile_38 : decode cX11_writeFile 38 = .ok (.bipush 10, 2) := by decide +kernel
theorem dX11_writeFile_40 : decode cX11_writeFile 40 = .ok (.if_icmp .ge 12, 3) := by decide +kernel
theorem dX11_writeFile_43 : decode cX11_writeFile 43 = .ok (.aload_n 0, 1) := by decide +kernel
theorem dX11_writeFile_44 : decode cX11_writeFile 44 = .ok (.iload_n 1, 1) := by decide +kernel
theorem dX11_writeFile_45 : decode cX11_writeFile 45 = .ok (.iload_n 2, 1) := by decide +kernel
theorem dX11_writeFile_46 : decode cX11_writeFile 46 = .ok (.invokevirtual 319, 3) := by decide +kernel
theorem dX11_writeFile_49 : decode cX11_writeFile 49 = .ok (.goto 24, 3) := by decide +kernel
theorem dX11_writeFile_52 : decode cX11_writeFile 52 = .ok (.iload_n 2, 1) := by decide +kernel
theorem dX11_writeFile_53 : decode cX11_writeFile 53 = .ok (.bipush 16, 2) := by decide +kernel
theorem dX11_writeFile_55 : decode cX11_writeFile 55 = .ok (.if_icmp .ge 12, 3) := by decide +kernel
theorem dX11_writeFile_58 : decode cX11_writeFile 58 = .ok (.aload_n 0, 1) := by decide +kernel
theorem dX11_writeFile_59 : decode cX11_writeFile 59 = .ok (.iload_n 1, 1) := by decide +kernel
theorem dX11_writeFile_60 : decode cX11_writeFile 60 = .ok (.iload_n 2, 1) := by decide +kernel
theorem dX11_writeFile_61 : decode cX11_writeFile 61 = .ok (.invokevirtual 322, 3) := by decide +kernel
theorem dX11_writeFile_64 : decode cX11_writeFile 64 = .ok (.goto 9, 3) := by decide +kernel
theorem dX11_writeFile_67 : decode cX11_writeFile 67 = .ok (.aload_n 0, 1) := by decide +kernel
theorem dX11_writeFile_68 : decode cX11_writeFile 68 = .ok (.iload_n 1, 1) := by decide +kernel
theorem dX11_writeFile_69 : decode cX11_writeFile 69 = .ok (.iload_n 2, 1) := by decide +kernel
theorem dX11_writeFile_70 : decode cX11_writeFile 70 = .ok (.invokevirtual 325, 3) := by decide +kernel
theorem dX11_writeFile_73 : decode cX11_writeFile 73 = .ok (.return_, 1) := by decide +kernel
theorem dX11_write_0 : decode cX11_write 0 = .ok (.aload_n 0, 1) := by decide +kernel
theorem dX11_write_1 : decode cX11_write 1 = .ok (.iconst 0, 1) := by decide +kernel
theorem dX11_write_2 : decode cX11_write 2 = .ok (.putfield 61, 3) := by decide +kernel
theorem dX11_write_5 : decode cX11_write 5 = .ok (.iload_n 1, 1) := by decide +kernel
theorem dX11_write_6 : decode cX11_write 6 = .ok (.invokestatic 245, 3) := by decide +kernel
theorem dX11_write_9 : decode cX11_write 9 = .ok (.ifCond .eq 22, 3) := by decide +kernel
theorem dX11_write_12 : decode cX11_write 12 = .ok (.aload_n 0, 1) := by decide +kernel
theorem dX11_write_13 : decode cX11_write 13 = .ok (.getfield 21, 3) := by decide +kernel
theorem dX11_write_16 : decode cX11_write 16 = .ok (.iload_n 1, 1) := by decide +kernel
theorem dX11_write_17 : decode cX11_write 17 = .ok (.iaload, 1) := by decide +kernel
theorem dX11_write_18 : decode cX11_write 18 = .ok (.ifCond .eq 13, 3) := by decide +kernel
theorem dX11_write_21 : decode cX11_write 21 = .ok (.iload_n 2, 1) := by decide +kernel
theorem dX11_write_22 : decode cX11_write 22 = .ok (.ifCond .lt 9, 3) := by decide +kernel
theorem dX11_write_25 : decode cX11_write 25 = .ok (.iload_n 2, 1) := by decide +kernel
theorem dX11_write_26 : decode cX11_write 26 = .ok (.bipush 17, 2) := by decide +kernel
theorem dX11_write_28 : decode cX11_write 28 = .ok (.if_icmp .le 6, 3) := by decide +kernel
theorem dX11_write_31 : decode cX11_write 31 = .ok (.bipush (-2), 2) := by decide +kernel
theorem dX11_write_33 : decode cX11_write 33 = .ok (.ireturn, 1) := by decide +kernel
theorem dX11_write_34 : decode cX11_write 34 = .ok (.aload_n 0, 1) := by decide +kernel
theorem dX11_write_35 : decode cX11_write 35 = .ok (.iload_n 1, 1) := by decide +kernel
theorem dX11_write_36 : decode cX11_write 36 = .ok (.iload_n 2, 1) := by decide +kernel
theorem dX11_write_37 : decode cX11_write 37 = .ok (.invokevirtual 328, 3) := by decide +kernel
theorem dX11_write_40 : decode cX11_write 40 = .ok (.ifCond .ne 5, 3) := by decide +kernel
theorem dX11_write_43 : decode cX11_write 43 = .ok (.iconst (-1), 1) := by decide +kernel
theorem dX11_write_44 : decode cX11_write 44 = .ok (.ireturn, 1) := by decide +kernel
theorem dX11_write_45 : decode cX11_write 45 = .ok (.aload_n 0, 1) := by decide +kernel
theorem dX11_write_46 : decode cX11_write 46 = .ok (.iload_n 1, 1) := by decide +kernel
theorem dX11_write_47 : decode cX11_write 47 = .ok (.iload_n 2, 1) := by decide +kernel
theorem dX11_write_48 : decode cX11_write 48 = .ok (.invokevirtual 331, 3) := by decide +kernel
theorem dX11_write_51 : decode cX11_write 51 = .ok (.aload_n 0, 1) := by decide +kernel
theorem dX11_write_52 : decode cX11_write 52 = .ok (.getfield 75, 3) := by decide +kernel
theorem dX11_write_55 : decode cX11_write 55 = .ok (.ireturn, 1) := by decide +kernel
theorem dX11_byteAt_0 : decode cX11_byteAt 0 = .ok (.aload_n 0, 1) := by decide +kernel
theorem dX11_byteAt_1 : decode cX11_byteAt 1 = .ok (.iconst 0, 1) := by decide +kernel
theorem dX11_byteAt_2 : decode cX11_byteAt 2 = .ok (.putfield 61, 3) := by decide +kernel
theorem dX11_byteAt_5 : decode cX11_byteAt 5 = .ok (.aload_n 0, 1) := by decide +kernel
theorem dX11_byteAt_6 : decode cX11_byteAt 6 = .ok (.getfield 71, 3) := by decide +kernel
theorem dX11_byteAt_9 : decode cX11_byteAt 9 = .ok (.ifCond .eq 28, 3) := by decide +kernel
theorem dX11_byteAt_12 : decode cX11_byteAt 12 = .ok (.iload_n 1, 1) := by decide +kernel
theorem dX11_byteAt_13 : decode cX11_byteAt 13 = .ok (.ifCond .lt 24, 3) := by decide +kernel
theorem dX11_byteAt_16 : decode cX11_byteAt 16 = .ok (.iload_n 1, 1) := by decide +kernel
theorem dX11_byteAt_17 : decode cX11_byteAt 17 = .ok (.aload_n 0, 1) := by decide +kernel
theorem dX11_byteAt_18 : decode cX11_byteAt 18 = .ok (.getfield 75, 3) := by decide +kernel
theorem dX11_byteAt_21 : decode cX11_byteAt 21 = .ok (.if_icmp .ge 16, 3) := by decide +kernel
theorem dX11_byteAt_24 : decode cX11_byteAt 24 = .ok (.aload_n 0, 1) := by decide +kernel
theorem dX11_byteAt_25 : decode cX11_byteAt 25 = .ok (.getfield 14, 3) := by decide +kernel
theorem dX11_byteAt_28 : decode cX11_byteAt 28 = .ok (.iload_n 1, 1) := by decide +kernel
theorem dX11_byteAt_29 : decode cX11_byteAt 29 = .ok (.baload, 1) := by decide +kernel
theorem dX11_byteAt_30 : decode cX11_byteAt 30 = .ok (.sipush 255, 3) := by decide +kernel
theorem dX11_byteAt_33 : decode cX11_byteAt 33 = .ok (.iand, 1) := by decide +kernel
theorem dX11_byteAt_34 : decode cX11_byteAt 34 = .ok (.goto 4, 3) := by decide +kernel
theorem dX11_byteAt_37 : decode cX11_byteAt 37 = .ok (.iconst (-1), 1) := by decide +kernel
theorem dX11_byteAt_38 : decode cX11_byteAt 38 = .ok (.ireturn, 1) := by decide +kernel
theorem dX11_bytes_0 : decode cX11_bytes 0 = .ok (.aload_n 0, 1) := by decide +kernel
theorem dX11_bytes_1 : decode cX11_bytes 1 = .ok (.iconst 0, 1) := by decide +kernel
theorem dX11_bytes_2 : decode cX11_bytes 2 = .ok (.putfield 61, 3) := by decide +kernel
theorem dX11_bytes_5 : decode cX11_bytes 5 = .ok (.aload_n 0, 1) := by decide +kernel
theorem dX11_bytes_6 : decode cX11_bytes 6 = .ok (.getfield 71, 3) := by decide +kernel
theorem dX11_bytes_9 : decode cX11_bytes 9 = .ok (.ifCond .eq 15, 3) := by decide +kernel
theorem dX11_bytes_12 : decode cX11_bytes 12 = .ok (.iload_n 1, 1) := by decide +kernel
theorem dX11_bytes_13 : decode cX11_bytes 13 = .ok (.ifCond .lt 11, 3) := by decide +kernel
theorem dX11_bytes_16 : decode cX11_bytes 16 = .ok (.iload_n 1, 1) := by decide +kernel
theorem dX11_bytes_17 : decode cX11_bytes 17 = .ok (.aload_n 0, 1) := by decide +kernel
theorem dX11_bytes_18 : decode cX11_bytes 18 = .ok (.getfield 75, 3) := by decide +kernel
theorem dX11_bytes_21 : decode cX11_bytes 21 = .ok (.if_icmp .lt 10, 3) := by decide +kernel
theorem dX11_bytes_24 : decode cX11_bytes 24 = .ok (.aload_n 0, 1) := by decide +kernel
theorem dX11_bytes_25 : decode cX11_bytes 25 = .ok (.iconst 1, 1) := by decide +kernel
theorem dX11_bytes_26 : decode cX11_bytes 26 = .ok (.putfield 61, 3) := by decide +kernel
theorem dX11_bytes_29 : decode cX11_bytes 29 = .ok (.lconst 0, 1) := by decide +kernel
theorem dX11_bytes_30 : decode cX11_bytes 30 = .ok (.lreturn, 1) := by decide +kernel
theorem dX11_bytes_31 : decode cX11_bytes 31 = .ok (.lconst 0, 1) := by decide +kernel
theorem dX11_bytes_32 : decode cX11_bytes 32 = .ok (.lstore_n 2, 1) := by decide +kernel
theorem dX11_bytes_33 : decode cX11_bytes 33 = .ok (.iconst 0, 1) := by decide +kernel
theorem dX11_bytes_34 : decode cX11_bytes 34 = .ok (.istore 4, 2) := by decide +kernel
theorem dX11_bytes_36 : decode cX11_bytes 36 = .ok (.iload 4, 2) := by decide +kernel
theorem dX11_bytes_38 : decode cX11_bytes 38 = .ok (.bipush 8, 2) := by decide +kernel
theorem dX11_bytes_40 : decode cX11_bytes 40 = .ok (.if_icmp .ge 44, 3) := by decide +kernel
theorem dX11_bytes_43 : decode cX11_bytes 43 = .ok (.lload_n 2, 1) := by decide +kernel
theorem dX11_bytes_44 : decode cX11_bytes 44 = .ok (.bipush 8, 2) := by decide +kernel
theorem dX11_bytes_46 : decode cX11_bytes 46 = .ok (.lshl, 1) := by decide +kernel
theorem dX11_bytes_47 : decode cX11_bytes 47 = .ok (.iload_n 1, 1) := by decide +kernel
theorem dX11_bytes_48 : decode cX11_bytes 48 = .ok (.iload 4, 2) := by decide +kernel
theorem dX11_bytes_50 : decode cX11_bytes 50 = .ok (.iadd, 1) := by decide +kernel
theorem dX11_bytes_51 : decode cX11_bytes 51 = .ok (.aload_n 0, 1) := by decide +kernel
theorem dX11_bytes_52 : decode cX11_bytes 52 = .ok (.getfield 75, 3) := by decide +kernel
theorem dX11_bytes_55 : decode cX11_bytes 55 = .ok (.if_icmp .ge 19, 3) := by decide +kernel
theorem dX11_bytes_58 : decode cX11_bytes 58 = .ok (.aload_n 0, 1) := by decide +kernel
theorem dX11_bytes_59 : decode cX11_bytes 59 = .ok (.getfield 14, 3) := by decide +kernel
theorem dX11_bytes_62 : decode cX11_bytes 62 = .ok (.iload_n 1, 1) := by decide +kernel
theorem dX11_bytes_63 : decode cX11_bytes 63 = .ok (.iload 4, 2) := by decide +kernel
theorem dX11_bytes_65 : decode cX11_bytes 65 = .ok (.iadd, 1) := by decide +kernel
theorem dX11_bytes_66 : decode cX11_bytes 66 = .ok (.baload, 1) := by decide +kernel
theorem dX11_bytes_67 : decode cX11_bytes 67 = .ok (.sipush 255, 3) := by decide +kernel
theorem dX11_bytes_70 : decode cX11_bytes 70 = .ok (.iand, 1) := by decide +kernel
theorem dX11_bytes_71 : decode cX11_bytes 71 = .ok (.goto 4, 3) := by decide +kernel
theorem dX11_bytes_74 : decode cX11_bytes 74 = .ok (.iconst 0, 1) := by decide +kernel
theorem dX11_bytes_75 : decode cX11_bytes 75 = .ok (.i2l, 1) := by decide +kernel
theorem dX11_bytes_76 : decode cX11_bytes 76 = .ok (.lor, 1) := by decide +kernel
theorem dX11_bytes_77 : decode cX11_bytes 77 = .ok (.lstore_n 2, 1) := by decide +kernel
theorem dX11_bytes_78 : decode cX11_bytes 78 = .ok (.iinc 4 1, 3) := by decide +kernel
theorem dX11_bytes_81 : decode cX11_bytes 81 = .ok (.goto (-45), 3) := by decide +kernel
theorem dX11_bytes_84 : decode cX11_bytes 84 = .ok (.lload_n 2, 1) := by decide +kernel
theorem dX11_bytes_85 : decode cX11_bytes 85 = .ok (.lreturn, 1) := by decide +kernel
theorem dX11_make_0 : decode cX11_make 0 = .ok (.aload_n 0, 1) := by decide +kernel
theorem dX11_make_1 : decode cX11_make 1 = .ok (.iconst 0, 1) := by decide +kernel
theorem dX11_make_2 : decode cX11_make 2 = .ok (.putfield 61, 3) := by decide +kernel
theorem dX11_make_5 : decode cX11_make 5 = .ok (.iload_n 1, 1) := by decide +kernel
theorem dX11_make_6 : decode cX11_make 6 = .ok (.invokestatic 245, 3) := by decide +kernel
theorem dX11_make_9 : decode cX11_make 9 = .ok (.ifCond .eq 25, 3) := by decide +kernel
theorem dX11_make_12 : decode cX11_make 12 = .ok (.iload_n 2, 1) := by decide +kernel
theorem dX11_make_13 : decode cX11_make 13 = .ok (.iconst 1, 1) := by decide +kernel
theorem dX11_make_14 : decode cX11_make 14 = .ok (.if_icmp .lt 20, 3) := by decide +kernel
theorem dX11_make_17 : decode cX11_make 17 = .ok (.iload_n 3, 1) := by decide +kernel
theorem dX11_make_18 : decode cX11_make 18 = .ok (.iconst 1, 1) := by decide +kernel
theorem dX11_make_19 : decode cX11_make 19 = .ok (.if_icmp .lt 15, 3) := by decide +kernel
theorem dX11_make_22 : decode cX11_make 22 = .ok (.iload_n 2, 1) := by decide +kernel
theorem dX11_make_23 : decode cX11_make 23 = .ok (.i2l, 1) := by decide +kernel
theorem dX11_make_24 : decode cX11_make 24 = .ok (.iload_n 3, 1) := by decide +kernel
theorem dX11_make_25 : decode cX11_make 25 = .ok (.i2l, 1) := by decide +kernel
theorem dX11_make_26 : decode cX11_make 26 = .ok (.lmul, 1) := by decide +kernel
theorem dX11_make_27 : decode cX11_make 27 = .ok (.ldc2_w 107, 3) := by decide +kernel
theorem dX11_make_30 : decode cX11_make 30 = .ok (.lcmp, 1) := by decide +kernel
theorem dX11_make_31 : decode cX11_make 31 = .ok (.ifCond .le 5, 3) := by decide +kernel
theorem dX11_make_34 : decode cX11_make 34 = .ok (.iconst 0, 1) := by decide +kernel
theorem dX11_make_35 : decode cX11_make 35 = .ok (.ireturn, 1) := by decide +kernel
theorem dX11_make_36 : decode cX11_make 36 = .ok (.aload_n 0, 1) := by decide +kernel
theorem dX11_make_37 : decode cX11_make 37 = .ok (.getfield 21, 3) := by decide +kernel
theorem dX11_make_40 : decode cX11_make 40 = .ok (.iload_n 1, 1) := by decide +kernel
theorem dX11_make_41 : decode cX11_make 41 = .ok (.iload_n 2, 1) := by decide +kernel
theorem dX11_make_42 : decode cX11_make 42 = .ok (.iastore, 1) := by decide +kernel
theorem dX11_make_43 : decode cX11_make 43 = .ok (.aload_n 0, 1) := by decide +kernel
theorem dX11_make_44 : decode cX11_make 44 = .ok (.getfield 24, 3) := by decide +kernel
theorem dX11_make_47 : decode cX11_make 47 = .ok (.iload_n 1, 1) := by decide +kernel
theorem dX11_make_48 : decode cX11_make 48 = .ok (.iload_n 3, 1) := by decide +kernel
theorem dX11_make_49 : decode cX11_make 49 = .ok (.iastore, 1) := by decide +kernel
theorem dX11_make_50 : decode cX11_make 50 = .ok (.iconst 0, 1) := by decide +kernel
theorem dX11_make_51 : decode cX11_make 51 = .ok (.istore 5, 2) := by decide +kernel
theorem dX11_make_53 : decode cX11_make 53 = .ok (.iload 5, 2) := by decide +kernel
theorem dX11_make_55 : decode cX11_make 55 = .ok (.iload_n 2, 1) := by decide +kernel
theorem dX11_make_56 : decode cX11_make 56 = .ok (.iload_n 3, 1) := by decide +kernel
theorem dX11_make_57 : decode cX11_make 57 = .ok (.imul, 1) := by decide +kernel
theorem dX11_make_58 : decode cX11_make 58 = .ok (.if_icmp .ge 24, 3) := by decide +kernel
theorem dX11_make_61 : decode cX11_make 61 = .ok (.aload_n 0, 1) := by decide +kernel
theorem dX11_make_62 : decode cX11_make 62 = .ok (.getfield 17, 3) := by decide +kernel
theorem dX11_make_65 : decode cX11_make 65 = .ok (.sipush 4096, 3) := by decide +kernel
theorem dX11_make_68 : decode cX11_make 68 = .ok (.iload_n 1, 1) := by decide +kernel
theorem dX11_make_69 : decode cX11_make 69 = .ok (.imul, 1) := by decide +kernel
theorem dX11_make_70 : decode cX11_make 70 = .ok (.iload 5, 2) := by decide +kernel
theorem dX11_make_72 : decode cX11_make 72 = .ok (.iadd, 1) := by decide +kernel
theorem dX11_make_73 : decode cX11_make 73 = .ok (.iload 4, 2) := by decide +kernel
theorem dX11_make_75 : decode cX11_make 75 = .ok (.iastore, 1) := by decide +kernel
theorem dX11_make_76 : decode cX11_make 76 = .ok (.iinc 5 1, 3) := by decide +kernel
theorem dX11_make_79 : decode cX11_make 79 = .ok (.goto (-26), 3) := by decide +kernel
theorem dX11_make_82 : decode cX11_make 82 = .ok (.iconst 1, 1) := by decide +kernel
theorem dX11_make_83 : decode cX11_make 83 = .ok (.ireturn, 1) := by decide +kernel
theorem dX11_pixelAt_0 : decode cX11_pixelAt 0 = .ok (.iload_n 1, 1) := by decide +kernel
theorem dX11_pixelAt_1 : decode cX11_pixelAt 1 = .ok (.invokestatic 245, 3) := by decide +kernel
theorem dX11_pixelAt_4 : decode cX11_pixelAt 4 = .ok (.ifCond .eq 12, 3) := by decide +kernel
theorem dX11_pixelAt_7 : decode cX11_pixelAt 7 = .ok (.aload_n 0, 1) := by decide +kernel
theorem dX11_pixelAt_8 : decode cX11_pixelAt 8 = .ok (.getfield 21, 3) := by decide +kernel
theorem dX11_pixelAt_11 : decode cX11_pixelAt 11 = .ok (.iload_n 1, 1) := by decide +kernel
theorem dX11_pixelAt_12 : decode cX11_pixelAt 12 = .ok (.iaload, 1) := by decide +kernel
theorem dX11_pixelAt_13 : decode cX11_pixelAt 13 = .ok (.ifCond .ne 10, 3) := by decide +kernel
theorem dX11_pixelAt_16 : decode cX11_pixelAt 16 = .ok (.aload_n 0, 1) := by decide +kernel
theorem dX11_pixelAt_17 : decode cX11_pixelAt 17 = .ok (.iconst 1, 1) := by decide +kernel
theorem dX11_pixelAt_18 : decode cX11_pixelAt 18 = .ok (.putfield 61, 3) := by decide +kernel
theorem dX11_pixelAt_21 : decode cX11_pixelAt 21 = .ok (.iconst (-1), 1) := by decide +kernel
theorem dX11_pixelAt_22 : decode cX11_pixelAt 22 = .ok (.ireturn, 1) := by decide +kernel
theorem dX11_pixelAt_23 : decode cX11_pixelAt 23 = .ok (.iload_n 2, 1) := by decide +kernel
theorem dX11_pixelAt_24 : decode cX11_pixelAt 24 = .ok (.ifCond .lt 27, 3) := by decide +kernel
theorem dX11_pixelAt_27 : decode cX11_pixelAt 27 = .ok (.iload_n 3, 1) := by decide +kernel
theorem dX11_pixelAt_28 : decode cX11_pixelAt 28 = .ok (.ifCond .lt 23, 3) := by decide +kernel
theorem dX11_pixelAt_31 : decode cX11_pixelAt 31 = .ok (.iload_n 2, 1) := by decide +kernel
theorem dX11_pixelAt_32 : decode cX11_pixelAt 32 = .ok (.aload_n 0, 1) := by decide +kernel
theorem dX11_pixelAt_33 : decode cX11_pixelAt 33 = .ok (.getfield 21, 3) := by decide +kernel
theorem dX11_pixelAt_36 : decode cX11_pixelAt 36 = .ok (.iload_n 1, 1) := by decide +kernel
theorem dX11_pixelAt_37 : decode cX11_pixelAt 37 = .ok (.iaload, 1) := by decide +kernel
theorem dX11_pixelAt_38 : decode cX11_pixelAt 38 = .ok (.if_icmp .ge 13, 3) := by decide +kernel
theorem dX11_pixelAt_41 : decode cX11_pixelAt 41 = .ok (.iload_n 3, 1) := by decide +kernel
theorem dX11_pixelAt_42 : decode cX11_pixelAt 42 = .ok (.aload_n 0, 1) := by decide +kernel
theorem dX11_pixelAt_43 : decode cX11_pixelAt 43 = .ok (.getfield 24, 3) := by decide +kernel
theorem dX11_pixelAt_46 : decode cX11_pixelAt 46 = .ok (.iload_n 1, 1) := by decide +kernel
theorem dX11_pixelAt_47 : decode cX11_pixelAt 47 = .ok (.iaload, 1) := by decide +kernel
theorem dX11_pixelAt_48 : decode cX11_pixelAt 48 = .ok (.if_icmp .lt 10, 3) := by decide +kernel
theorem dX11_pixelAt_51 : decode cX11_pixelAt 51 = .ok (.aload_n 0, 1) := by decide +kernel
theorem dX11_pixelAt_52 : decode cX11_pixelAt 52 = .ok (.iconst 2, 1) := by decide +kernel
theorem dX11_pixelAt_53 : decode cX11_pixelAt 53 = .ok (.putfield 61, 3) := by decide +kernel
theorem dX11_pixelAt_56 : decode cX11_pixelAt 56 = .ok (.iconst (-1), 1) := by decide +kernel
theorem dX11_pixelAt_57 : decode cX11_pixelAt 57 = .ok (.ireturn, 1) := by decide +kernel
theorem dX11_pixelAt_58 : decode cX11_pixelAt 58 = .ok (.sipush 4096, 3) := by decide +kernel
theorem dX11_pixelAt_61 : decode cX11_pixelAt 61 = .ok (.iload_n 1, 1) := by decide +kernel
theorem dX11_pixelAt_62 : decode cX11_pixelAt 62 = .ok (.imul, 1) := by decide +kernel
theorem dX11_pixelAt_63 : decode cX11_pixelAt 63 = .ok (.aload_n 0, 1) := by decide +kernel
theorem dX11_pixelAt_64 : decode cX11_pixelAt 64 = .ok (.getfield 21, 3) := by decide +kernel
theorem dX11_pixelAt_67 : decode cX11_pixelAt 67 = .ok (.iload_n 1, 1) := by decide +kernel
theorem dX11_pixelAt_68 : decode cX11_pixelAt 68 = .ok (.iaload, 1) := by decide +kernel
theorem dX11_pixelAt_69 : decode cX11_pixelAt 69 = .ok (.iload_n 3, 1) := by decide +kernel
theorem dX11_pixelAt_70 : decode cX11_pixelAt 70 = .ok (.imul, 1) := by decide +kernel
theorem dX11_pixelAt_71 : decode cX11_pixelAt 71 = .ok (.iadd, 1) := by decide +kernel
theorem dX11_pixelAt_72 : decode cX11_pixelAt 72 = .ok (.iload_n 2, 1) := by decide +kernel
theorem dX11_pixelAt_73 : decode cX11_pixelAt 73 = .ok (.iadd, 1) := by decide +kernel
theorem dX11_pixelAt_74 : decode cX11_pixelAt 74 = .ok (.ireturn, 1) := by decide +kernel
theorem dX11_dot_0 : decode cX11_dot 0 = .ok (.aload_n 0, 1) := by decide +kernel
theorem dX11_dot_1 : decode cX11_dot 1 = .ok (.iconst 0, 1) := by decide +kernel
theorem dX11_dot_2 : decode cX11_dot 2 = .ok (.putfield 61, 3) := by decide +kernel
theorem dX11_dot_5 : decode cX11_dot 5 = .ok (.aload_n 0, 1) := by decide +kernel
theorem dX11_dot_6 : decode cX11_dot 6 = .ok (.iload_n 1, 1) := by decide +kernel
theorem dX11_dot_7 : decode cX11_dot 7 = .ok (.iload_n 2, 1) := by decide +kernel
theorem dX11_dot_8 : decode cX11_dot 8 = .ok (.iload_n 3, 1) := by decide +kernel
theorem dX11_dot_9 : decode cX11_dot 9 = .ok (.invokevirtual 334, 3) := by decide +kernel
theorem dX11_dot_12 : decode cX11_dot 12 = .ok (.istore 5, 2) := by decide +kernel
theorem dX11_dot_14 : decode cX11_dot 14 = .ok (.iload 5, 2) := by decide +kernel
theorem dX11_dot_16 : decode cX11_dot 16 = .ok (.ifCond .ge 5, 3) := by decide +kernel
theorem dX11_dot_19 : decode cX11_dot 19 = .ok (.iconst 0, 1) := by decide +kernel
theorem dX11_dot_20 : decode cX11_dot 20 = .ok (.ireturn, 1) := by decide +kernel
theorem dX11_dot_21 : decode cX11_dot 21 = .ok (.aload_n 0, 1) := by decide +kernel
theorem dX11_dot_22 : decode cX11_dot 22 = .ok (.getfield 17, 3) := by decide +kernel
theorem dX11_dot_25 : decode cX11_dot 25 = .ok (.iload 5, 2) := by decide +kernel
theorem dX11_dot_27 : decode cX11_dot 27 = .ok (.iaload, 1) := by decide +kernel
theorem dX11_dot_28 : decode cX11_dot 28 = .ok (.istore 6, 2) := by decide +kernel
theorem dX11_dot_30 : decode cX11_dot 30 = .ok (.aload_n 0, 1) := by decide +kernel
theorem dX11_dot_31 : decode cX11_dot 31 = .ok (.getfield 17, 3) := by decide +kernel
theorem dX11_dot_34 : decode cX11_dot 34 = .ok (.iload 5, 2) := by decide +kernel
theorem dX11_dot_36 : decode cX11_dot 36 = .ok (.iload 4, 2) := by decide +kernel
theorem dX11_dot_38 : decode cX11_dot 38 = .ok (.iastore, 1) := by decide +kernel
theorem dX11_dot_39 : decode cX11_dot 39 = .ok (.iload 6, 2) := by decide +kernel
theorem dX11_dot_41 : decode cX11_dot 41 = .ok (.ireturn, 1) := by decide +kernel
theorem dX11_sweep_0 : decode cX11_sweep 0 = .ok (.aload_n 0, 1) := by decide +kernel
theorem dX11_sweep_1 : decode cX11_sweep 1 = .ok (.iconst 0, 1) := by decide +kernel
theorem dX11_sweep_2 : decode cX11_sweep 2 = .ok (.putfield 61, 3) := by decide +kernel
theorem dX11_sweep_5 : decode cX11_sweep 5 = .ok (.aload_n 0, 1) := by decide +kernel
theorem dX11_sweep_6 : decode cX11_sweep 6 = .ok (.iload_n 1, 1) := by decide +kernel
theorem dX11_sweep_7 : decode cX11_sweep 7 = .ok (.iload_n 2, 1) := by decide +kernel
theorem dX11_sweep_8 : decode cX11_sweep 8 = .ok (.iload_n 3, 1) := by decide +kernel
theorem dX11_sweep_9 : decode cX11_sweep 9 = .ok (.invokevirtual 334, 3) := by decide +kernel
theorem dX11_sweep_12 : decode cX11_sweep 12 = .ok (.istore 7, 2) := by decide +kernel
theorem dX11_sweep_14 : decode cX11_sweep 14 = .ok (.iload 7, 2) := by decide +kernel
theorem dX11_sweep_16 : decode cX11_sweep 16 = .ok (.ifCond .ge 5, 3) := by decide +kernel
theorem dX11_sweep_19 : decode cX11_sweep 19 = .ok (.iconst 0, 1) := by decide +kernel
theorem dX11_sweep_20 : decode cX11_sweep 20 = .ok (.ireturn, 1) := by decide +kernel
theorem dX11_sweep_21 : decode cX11_sweep 21 = .ok (.iconst 0, 1) := by decide +kernel
theorem dX11_sweep_22 : decode cX11_sweep 22 = .ok (.istore 8, 2) := by decide +kernel
theorem dX11_sweep_24 : decode cX11_sweep 24 = .ok (.iload 5, 2) := by decide +kernel
theorem dX11_sweep_26 : decode cX11_sweep 26 = .ok (.istore 9, 2) := by decide +kernel
theorem dX11_sweep_28 : decode cX11_sweep 28 = .ok (.iload 8, 2) := by decide +kernel
theorem dX11_sweep_30 : decode cX11_sweep 30 = .ok (.iload 4, 2) := by decide +kernel
theorem dX11_sweep_32 : decode cX11_sweep 32 = .ok (.if_icmp .ge 44, 3) := by decide +kernel
theorem dX11_sweep_35 : decode cX11_sweep 35 = .ok (.iload 7, 2) := by decide +kernel
theorem dX11_sweep_37 : decode cX11_sweep 37 = .ok (.sipush 4096, 3) := by decide +kernel
theorem dX11_sweep_40 : decode cX11_sweep 40 = .ok (.iload_n 1, 1) := by decide +kernel
theorem dX11_sweep_41 : decode cX11_sweep 41 = .ok (.imul, 1) := by decide +kernel
theorem dX11_sweep_42 : decode cX11_sweep 42 = .ok (.aload_n 0, 1) := by decide +kernel
theorem dX11_sweep_43 : decode cX11_sweep 43 = .ok (.iload_n 1, 1) := by decide +kernel
theorem dX11_sweep_44 : decode cX11_sweep 44 = .ok (.invokevirtual 256, 3) := by decide +kernel
theorem dX11_sweep_47 : decode cX11_sweep 47 = .ok (.iadd, 1) := by decide +kernel
theorem dX11_sweep_48 : decode cX11_sweep 48 = .ok (.if_icmp .ge 28, 3) := by decide +kernel
theorem dX11_sweep_51 : decode cX11_sweep 51 = .ok (.aload_n 0, 1) := by decide +kernel
theorem dX11_sweep_52 : decode cX11_sweep 52 = .ok (.getfield 17, 3) := by decide +kernel
theorem dX11_sweep_55 : decode cX11_sweep 55 = .ok (.iload 7, 2) := by decide +kernel
theorem dX11_sweep_57 : decode cX11_sweep 57 = .ok (.iload 9, 2) := by decide +kernel
theorem dX11_sweep_59 : decode cX11_sweep 59 = .ok (.iastore, 1) := by decide +kernel
theorem dX11_sweep_60 : decode cX11_sweep 60 = .ok (.iload 9, 2) := by decide +kernel
theorem dX11_sweep_62 : decode cX11_sweep 62 = .ok (.iload 6, 2) := by decide +kernel
theorem dX11_sweep_64 : decode cX11_sweep 64 = .ok (.iadd, 1) := by decide +kernel
theorem dX11_sweep_65 : decode cX11_sweep 65 = .ok (.istore 9, 2) := by decide +kernel
theorem dX11_sweep_67 : decode cX11_sweep 67 = .ok (.iinc 7 1, 3) := by decide +kernel
theorem dX11_sweep_70 : decode cX11_sweep 70 = .ok (.iinc 8 1, 3) := by decide +kernel
theorem dX11_sweep_73 : decode cX11_sweep 73 = .ok (.goto (-45), 3) := by decide +kernel
theorem dX11_sweep_76 : decode cX11_sweep 76 = .ok (.iload 8, 2) := by decide +kernel
theorem dX11_sweep_78 : decode cX11_sweep 78 = .ok (.ireturn, 1) := by decide +kernel
theorem dX11_pixel_0 : decode cX11_pixel 0 = .ok (.aload_n 0, 1) := by decide +kernel
theorem dX11_pixel_1 : decode cX11_pixel 1 = .ok (.iconst 0, 1) := by decide +kernel
theorem dX11_pixel_2 : decode cX11_pixel 2 = .ok (.putfield 61, 3) := by decide +kernel
theorem dX11_pixel_5 : decode cX11_pixel 5 = .ok (.aload_n 0, 1) := by decide +kernel
theorem dX11_pixel_6 : decode cX11_pixel 6 = .ok (.iload_n 1, 1) := by decide +kernel
theorem dX11_pixel_7 : decode cX11_pixel 7 = .ok (.iload_n 2, 1) := by decide +kernel
theorem dX11_pixel_8 : decode cX11_pixel 8 = .ok (.iload_n 3, 1) := by decide +kernel
theorem dX11_pixel_9 : decode cX11_pixel 9 = .ok (.invokevirtual 334, 3) := by decide +kernel
theorem dX11_pixel_12 : decode cX11_pixel 12 = .ok (.istore 4, 2) := by decide +kernel
theorem dX11_pixel_14 : decode cX11_pixel 14 = .ok (.iload 4, 2) := by decide +kernel
theorem dX11_pixel_16 : decode cX11_pixel 16 = .ok (.ifCond .ge 7, 3) := by decide +kernel
theorem dX11_pixel_19 : decode cX11_pixel 19 = .ok (.iconst 0, 1) := by decide +kernel
theorem dX11_pixel_20 : decode cX11_pixel 20 = .ok (.goto 10, 3) := by decide +kernel
theorem dX11_pixel_23 : decode cX11_pixel 23 = .ok (.aload_n 0, 1) := by decide +kernel
theorem dX11_pixel_24 : decode cX11_pixel 24 = .ok (.getfield 17, 3) := by decide +kernel
theorem dX11_pixel_27 : decode cX11_pixel 27 = .ok (.iload 4, 2) := by decide +kernel
theorem dX11_pixel_29 : decode cX11_pixel 29 = .ok (.iaload, 1) := by decide +kernel
theorem dX11_pixel_30 : decode cX11_pixel 30 = .ok (.ireturn, 1) := by decide +kernel
theorem dX11_raster_0 : decode cX11_raster 0 = .ok (.aload_n 0, 1) := by decide +kernel
theorem dX11_raster_1 : decode cX11_raster 1 = .ok (.iconst 0, 1) := by decide +kernel
theorem dX11_raster_2 : decode cX11_raster 2 = .ok (.putfield 61, 3) := by decide +kernel
theorem dX11_raster_5 : decode cX11_raster 5 = .ok (.iload_n 1, 1) := by decide +kernel
theorem dX11_raster_6 : decode cX11_raster 6 = .ok (.invokestatic 245, 3) := by decide +kernel
theorem dX11_raster_9 : decode cX11_raster 9 = .ok (.ifCond .eq 12, 3) := by decide +kernel
theorem dX11_raster_12 : decode cX11_raster 12 = .ok (.aload_n 0, 1) := by decide +kernel
theorem dX11_raster_13 : decode cX11_raster 13 = .ok (.getfield 21, 3) := by decide +kernel
theorem dX11_raster_16 : decode cX11_raster 16 = .ok (.iload_n 1, 1) := by decide +kernel
theorem dX11_raster_17 : decode cX11_raster 17 = .ok (.iaload, 1) := by decide +kernel
theorem dX11_raster_18 : decode cX11_raster 18 = .ok (.ifCond .ne 5, 3) := by decide +kernel
theorem dX11_raster_21 : decode cX11_raster 21 = .ok (.iconst (-1), 1) := by decide +kernel
theorem dX11_raster_22 : decode cX11_raster 22 = .ok (.ireturn, 1) := by decide +kernel
theorem dX11_raster_23 : decode cX11_raster 23 = .ok (.iload_n 2, 1) := by decide +kernel
theorem dX11_raster_24 : decode cX11_raster 24 = .ok (.tableswitch 102 0 5 #[40, 47, 54, 60, 74, 88], 40) := by decide +kernel
theorem dX11_raster_64 : decode cX11_raster 64 = .ok (.aload_n 0, 1) := by decide +kernel
theorem dX11_raster_65 : decode cX11_raster 65 = .ok (.getfield 21, 3) := by decide +kernel
theorem dX11_raster_68 : decode cX11_raster 68 = .ok (.iload_n 1, 1) := by decide +kernel
theorem dX11_raster_69 : decode cX11_raster 69 = .ok (.iaload, 1) := by decide +kernel
theorem dX11_raster_70 : decode cX11_raster 70 = .ok (.ireturn, 1) := by decide +kernel
theorem dX11_raster_71 : decode cX11_raster 71 = .ok (.aload_n 0, 1) := by decide +kernel
theorem dX11_raster_72 : decode cX11_raster 72 = .ok (.getfield 24, 3) := by decide +kernel
theorem dX11_raster_75 : decode cX11_raster 75 = .ok (.iload_n 1, 1) := by decide +kernel
theorem dX11_raster_76 : decode cX11_raster 76 = .ok (.iaload, 1) := by decide +kernel
theorem dX11_raster_77 : decode cX11_raster 77 = .ok (.ireturn, 1) := by decide +kernel
theorem dX11_raster_78 : decode cX11_raster 78 = .ok (.aload_n 0, 1) := by decide +kernel
theorem dX11_raster_79 : decode cX11_raster 79 = .ok (.iload_n 1, 1) := by decide +kernel
theorem dX11_raster_80 : decode cX11_raster 80 = .ok (.invokevirtual 277, 3) := by decide +kernel
theorem dX11_raster_83 : decode cX11_raster 83 = .ok (.ireturn, 1) := by decide +kernel
theorem dX11_raster_84 : decode cX11_raster 84 = .ok (.aload_n 0, 1) := by decide +kernel
theorem dX11_raster_85 : decode cX11_raster 85 = .ok (.iload_n 1, 1) := by decide +kernel
theorem dX11_raster_86 : decode cX11_raster 86 = .ok (.invokevirtual 271, 3) := by decide +kernel
theorem dX11_raster_89 : decode cX11_raster 89 = .ok (.ifCond .eq 7, 3) := by decide +kernel
theorem dX11_raster_92 : decode cX11_raster 92 = .ok (.iconst 1, 1) := by decide +kernel
theorem dX11_raster_93 : decode cX11_raster 93 = .ok (.goto 4, 3) := by decide +kernel
theorem dX11_raster_96 : decode cX11_raster 96 = .ok (.iconst 0, 1) := by decide +kernel
theorem dX11_raster_97 : decode cX11_raster 97 = .ok (.ireturn, 1) := by decide +kernel
theorem dX11_raster_98 : decode cX11_raster 98 = .ok (.aload_n 0, 1) := by decide +kernel
theorem dX11_raster_99 : decode cX11_raster 99 = .ok (.iload_n 1, 1) := by decide +kernel
theorem dX11_raster_100 : decode cX11_raster 100 = .ok (.invokevirtual 274, 3) := by decide +kernel
theorem dX11_raster_103 : decode cX11_raster 103 = .ok (.ifCond .eq 7, 3) := by decide +kernel
theorem dX11_raster_106 : decode cX11_raster 106 = .ok (.iconst 1, 1) := by decide +kernel
theorem dX11_raster_107 : decode cX11_raster 107 = .ok (.goto 4, 3) := by decide +kernel
theorem dX11_raster_110 : decode cX11_raster 110 = .ok (.iconst 0, 1) := by decide +kernel
theorem dX11_raster_111 : decode cX11_raster 111 = .ok (.ireturn, 1) := by decide +kernel
theorem dX11_raster_112 : decode cX11_raster 112 = .ok (.aload_n 0, 1) := by decide +kernel
theorem dX11_raster_113 : decode cX11_raster 113 = .ok (.iload_n 1, 1) := by decide +kernel
theorem dX11_raster_114 : decode cX11_raster 114 = .ok (.invokevirtual 268, 3) := by decide +kernel
theorem dX11_raster_117 : decode cX11_raster 117 = .ok (.ifCond .eq 7, 3) := by decide +kernel
theorem dX11_raster_120 : decode cX11_raster 120 = .ok (.iconst 1, 1) := by decide +kernel
theorem dX11_raster_121 : decode cX11_raster 121 = .ok (.goto 4, 3) := by decide +kernel
theorem dX11_raster_124 : decode cX11_raster 124 = .ok (.iconst 0, 1) := by decide +kernel
theorem dX11_raster_125 : decode cX11_raster 125 = .ok (.ireturn, 1) := by decide +kernel
theorem dX11_raster_126 : decode cX11_raster 126 = .ok (.iconst (-1), 1) := by decide +kernel
theorem dX11_raster_127 : decode cX11_raster 127 = .ok (.ireturn, 1) := by decide +kernel
theorem dX11_holds_0 : decode cX11_holds 0 = .ok (.aload_n 0, 1) := by decide +kernel
theorem dX11_holds_1 : decode cX11_holds 1 = .ok (.iconst 0, 1) := by decide +kernel
theorem dX11_holds_2 : decode cX11_holds 2 = .ok (.putfield 61, 3) := by decide +kernel
theorem dX11_holds_5 : decode cX11_holds 5 = .ok (.iload_n 1, 1) := by decide +kernel
theorem dX11_holds_6 : decode cX11_holds 6 = .ok (.invokestatic 245, 3) := by decide +kernel
theorem dX11_holds_9 : decode cX11_holds 9 = .ok (.ifCond .eq 25, 3) := by decide +kernel
theorem dX11_holds_12 : decode cX11_holds 12 = .ok (.aload_n 0, 1) := by decide +kernel
theorem dX11_holds_13 : decode cX11_holds 13 = .ok (.getfield 21, 3) := by decide +kernel
theorem dX11_holds_16 : decode cX11_holds 16 = .ok (.iload_n 1, 1) := by decide +kernel
theorem dX11_holds_17 : decode cX11_holds 17 = .ok (.iaload, 1) := by decide +kernel
theorem dX11_holds_18 : decode cX11_holds 18 = .ok (.ifCond .le 16, 3) := by decide +kernel
theorem dX11_holds_21 : decode cX11_holds 21 = .ok (.aload_n 0, 1) := by decide +kernel
theorem dX11_holds_22 : decode cX11_holds 22 = .ok (.iload_n 1, 1) := by decide +kernel
theorem dX11_holds_23 : decode cX11_holds 23 = .ok (.iload_n 2, 1) := by decide +kernel
theorem dX11_holds_24 : decode cX11_holds 24 = .ok (.invokevirtual 328, 3) := by decide +kernel
theorem dX11_holds_27 : decode cX11_holds 27 = .ok (.ifCond .eq 7, 3) := by decide +kernel
theorem dX11_holds_30 : decode cX11_holds 30 = .ok (.iconst 1, 1) := by decide +kernel
theorem dX11_holds_31 : decode cX11_holds 31 = .ok (.goto 4, 3) := by decide +kernel
theorem dX11_holds_34 : decode cX11_holds 34 = .ok (.iconst 0, 1) := by decide +kernel
theorem dX11_holds_35 : decode cX11_holds 35 = .ok (.ireturn, 1) := by decide +kernel
theorem dX11_copy_0 : decode cX11_copy 0 = .ok (.aload_n 0, 1) := by decide +kernel
theorem dX11_copy_1 : decode cX11_copy 1 = .ok (.iconst 0, 1) := by decide +kernel
theorem dX11_copy_2 : decode cX11_copy 2 = .ok (.putfield 61, 3) := by decide +kernel
theorem dX11_copy_5 : decode cX11_copy 5 = .ok (.iload_n 1, 1) := by decide +kernel
theorem dX11_copy_6 : decode cX11_copy 6 = .ok (.invokestatic 245, 3) := by decide +kernel
theorem dX11_copy_9 : decode cX11_copy 9 = .ok (.ifCond .eq 10, 3) := by decide +kernel
theorem dX11_copy_12 : decode cX11_copy 12 = .ok (.iload_n 2, 1) := by decide +kernel
theorem dX11_copy_13 : decode cX11_copy 13 = .ok (.invokestatic 245, 3) := by decide +kernel
theorem dX11_copy_16 : decode cX11_copy 16 = .ok (.ifCond .ne 5, 3) := by decide +kernel
theorem dX11_copy_19 : decode cX11_copy 19 = .ok (.iconst 0, 1) := by decide +kernel
theorem dX11_copy_20 : decode cX11_copy 20 = .ok (.ireturn, 1) := by decide +kernel
theorem dX11_copy_21 : decode cX11_copy 21 = .ok (.iconst 0, 1) := by decide +kernel
theorem dX11_copy_22 : decode cX11_copy 22 = .ok (.istore_n 3, 1) := by decide +kernel
theorem dX11_copy_23 : decode cX11_copy 23 = .ok (.iload_n 3, 1) := by decide +kernel
theorem dX11_copy_24 : decode cX11_copy 24 = .ok (.aload_n 0, 1) := by decide +kernel
theorem dX11_copy_25 : decode cX11_copy 25 = .ok (.iload_n 1, 1) := by decide +kernel
theorem dX11_copy_26 : decode cX11_copy 26 = .ok (.invokevirtual 256, 3) := by decide +kernel
theorem dX11_copy_29 : decode cX11_copy 29 = .ok (.if_icmp .ge 33, 3) := by decide +kernel
theorem dX11_copy_32 : decode cX11_copy 32 = .ok (.aload_n 0, 1) := by decide +kernel
theorem dX11_copy_33 : decode cX11_copy 33 = .ok (.getfield 17, 3) := by decide +kernel
theorem dX11_copy_36 : decode cX11_copy 36 = .ok (.sipush 4096, 3) := by decide +kernel
theorem dX11_copy_39 : decode cX11_copy 39 = .ok (.iload_n 2, 1) := by decide +kernel
theorem dX11_copy_40 : decode cX11_copy 40 = .ok (.imul, 1) := by decide +kernel
theorem dX11_copy_41 : decode cX11_copy 41 = .ok (.iload_n 3, 1) := by decide +kernel
theorem dX11_copy_42 : decode cX11_copy 42 = .ok (.iadd, 1) := by decide +kernel
theorem dX11_copy_43 : decode cX11_copy 43 = .ok (.aload_n 0, 1) := by decide +kernel
theorem dX11_copy_44 : decode cX11_copy 44 = .ok (.getfield 17, 3) := by decide +kernel
theorem dX11_copy_47 : decode cX11_copy 47 = .ok (.sipush 4096, 3) := by decide +kernel
theorem dX11_copy_50 : decode cX11_copy 50 = .ok (.iload_n 1, 1) := by decide +kernel
theorem dX11_copy_51 : decode cX11_copy 51 = .ok (.imul, 1) := by decide +kernel
theorem dX11_copy_52 : decode cX11_copy 52 = .ok (.iload_n 3, 1) := by decide +kernel
theorem dX11_copy_53 : decode cX11_copy 53 = .ok (.iadd, 1) := by decide +kernel
theorem dX11_copy_54 : decode cX11_copy 54 = .ok (.iaload, 1) := by decide +kernel
theorem dX11_copy_55 : decode cX11_copy 55 = .ok (.iastore, 1) := by decide +kernel
theorem dX11_copy_56 : decode cX11_copy 56 = .ok (.iinc 3 1, 3) := by decide +kernel
theorem dX11_copy_59 : decode cX11_copy 59 = .ok (.goto (-36), 3) := by decide +kernel
theorem dX11_copy_62 : decode cX11_copy 62 = .ok (.aload_n 0, 1) := by decide +kernel
theorem dX11_copy_63 : decode cX11_copy 63 = .ok (.getfield 21, 3) := by decide +kernel
theorem dX11_copy_66 : decode cX11_copy 66 = .ok (.iload_n 2, 1) := by decide +kernel
theorem dX11_copy_67 : decode cX11_copy 67 = .ok (.aload_n 0, 1) := by decide +kernel
theorem dX11_copy_68 : decode cX11_copy 68 = .ok (.getfield 21, 3) := by decide +kernel
theorem dX11_copy_71 : decode cX11_copy 71 = .ok (.iload_n 1, 1) := by decide +kernel
theorem dX11_copy_72 : decode cX11_copy 72 = .ok (.iaload, 1) := by decide +kernel
theorem dX11_copy_73 : decode cX11_copy 73 = .ok (.iastore, 1) := by decide +kernel
theorem dX11_copy_74 : decode cX11_copy 74 = .ok (.aload_n 0, 1) := by decide +kernel
theorem dX11_copy_75 : decode cX11_copy 75 = .ok (.getfield 24, 3) := by decide +kernel
theorem dX11_copy_78 : decode cX11_copy 78 = .ok (.iload_n 2, 1) := by decide +kernel
theorem dX11_copy_79 : decode cX11_copy 79 = .ok (.aload_n 0, 1) := by decide +kernel
theorem dX11_copy_80 : decode cX11_copy 80 = .ok (.getfield 24, 3) := by decide +kernel
theorem dX11_copy_83 : decode cX11_copy 83 = .ok (.iload_n 1, 1) := by decide +kernel
theorem dX11_copy_84 : decode cX11_copy 84 = .ok (.iaload, 1) := by decide +kernel
theorem dX11_copy_85 : decode cX11_copy 85 = .ok (.iastore, 1) := by decide +kernel
theorem dX11_copy_86 : decode cX11_copy 86 = .ok (.iconst 1, 1) := by decide +kernel
theorem dX11_copy_87 : decode cX11_copy 87 = .ok (.ireturn, 1) := by decide +kernel
theorem dX11_same_0 : decode cX11_same 0 = .ok (.aload_n 0, 1) := by decide +kernel
theorem dX11_same_1 : decode cX11_same 1 = .ok (.iconst 0, 1) := by decide +kernel
theorem dX11_same_2 : decode cX11_same 2 = .ok (.putfield 61, 3) := by decide +kernel
theorem dX11_same_5 : decode cX11_same 5 = .ok (.iload_n 1, 1) := by decide +kernel
theorem dX11_same_6 : decode cX11_same 6 = .ok (.invokestatic 245, 3) := by decide +kernel
theorem dX11_same_9 : decode cX11_same 9 = .ok (.ifCond .eq 40, 3) := by decide +kernel
theorem dX11_same_12 : decode cX11_same 12 = .ok (.iload_n 2, 1) := by decide +kernel
theorem dX11_same_13 : decode cX11_same 13 = .ok (.invokestatic 245, 3) := by decide +kernel
theorem dX11_same_16 : decode cX11_same 16 = .ok (.ifCond .eq 33, 3) := by decide +kernel
theorem dX11_same_19 : decode cX11_same 19 = .ok (.aload_n 0, 1) := by decide +kernel
theorem dX11_same_20 : decode cX11_same 20 = .ok (.getfield 21, 3) := by decide +kernel
theorem dX11_same_23 : decode cX11_same 23 = .ok (.iload_n 1, 1) := by decide +kernel
theorem dX11_same_24 : decode cX11_same 24 = .ok (.iaload, 1) := by decide +kernel
theorem dX11_same_25 : decode cX11_same 25 = .ok (.aload_n 0, 1) := by decide +kernel
theorem dX11_same_26 : decode cX11_same 26 = .ok (.getfield 21, 3) := by decide +kernel
theorem dX11_same_29 : decode cX11_same 29 = .ok (.iload_n 2, 1) := by decide +kernel
theorem dX11_same_30 : decode cX11_same 30 = .ok (.iaload, 1) := by decide +kernel
theorem dX11_same_31 : decode cX11_same 31 = .ok (.if_icmp .ne 18, 3) := by decide +kernel
theorem dX11_same_34 : decode cX11_same 34 = .ok (.aload_n 0, 1) := by decide +kernel
theorem dX11_same_35 : decode cX11_same 35 = .ok (.getfield 24, 3) := by decide +kernel
theorem dX11_same_38 : decode cX11_same 38 = .ok (.iload_n 1, 1) := by decide +kernel
theorem dX11_same_39 : decode cX11_same 39 = .ok (.iaload, 1) := by decide +kernel
theorem dX11_same_40 : decode cX11_same 40 = .ok (.aload_n 0, 1) := by decide +kernel
theorem dX11_same_41 : decode cX11_same 41 = .ok (.getfield 24, 3) := by decide +kernel
theorem dX11_same_44 : decode cX11_same 44 = .ok (.iload_n 2, 1) := by decide +kernel
theorem dX11_same_45 : decode cX11_same 45 = .ok (.iaload, 1) := by decide +kernel
theorem dX11_same_46 : decode cX11_same 46 = .ok (.if_icmp .eq 5, 3) := by decide +kernel
theorem dX11_same_49 : decode cX11_same 49 = .ok (.iconst 0, 1) := by decide +kernel
theorem dX11_same_50 : decode cX11_same 50 = .ok (.ireturn, 1) := by decide +kernel
theorem dX11_same_51 : decode cX11_same 51 = .ok (.iconst 0, 1) := by decide +kernel
theorem dX11_same_52 : decode cX11_same 52 = .ok (.istore_n 3, 1) := by decide +kernel
theorem dX11_same_53 : decode cX11_same 53 = .ok (.iload_n 3, 1) := by decide +kernel
theorem dX11_same_54 : decode cX11_same 54 = .ok (.aload_n 0, 1) := by decide +kernel
theorem dX11_same_55 : decode cX11_same 55 = .ok (.iload_n 1, 1) := by decide +kernel
theorem dX11_same_56 : decode cX11_same 56 = .ok (.invokevirtual 256, 3) := by decide +kernel
theorem dX11_same_59 : decode cX11_same 59 = .ok (.if_icmp .ge 38, 3) := by decide +kernel
theorem dX11_same_62 : decode cX11_same 62 = .ok (.aload_n 0, 1) := by decide +kernel
theorem dX11_same_63 : decode cX11_same 63 = .ok (.getfield 17, 3) := by decide +kernel
theorem dX11_same_66 : decode cX11_same 66 = .ok (.sipush 4096, 3) := by decide +kernel
theorem dX11_same_69 : decode cX11_same 69 = .ok (.iload_n 1, 1) := by decide +kernel
theorem dX11_same_70 : decode cX11_same 70 = .ok (.imul, 1) := by decide +kernel
theorem dX11_same_71 : decode cX11_same 71 = .ok (.iload_n 3, 1) := by decide +kernel
theorem dX11_same_72 : decode cX11_same 72 = .ok (.iadd, 1) := by decide +kernel
theorem dX11_same_73 : decode cX11_same 73 = .ok (.iaload, 1) := by decide +kernel
theorem dX11_same_74 : decode cX11_same 74 = .ok (.aload_n 0, 1) := by decide +kernel
theorem dX11_same_75 : decode cX11_same 75 = .ok (.getfield 17, 3) := by decide +kernel
theorem dX11_same_78 : decode cX11_same 78 = .ok (.sipush 4096, 3) := by decide +kernel
theorem dX11_same_81 : decode cX11_same 81 = .ok (.iload_n 2, 1) := by decide +kernel
theorem dX11_same_82 : decode cX11_same 82 = .ok (.imul, 1) := by decide +kernel
theorem dX11_same_83 : decode cX11_same 83 = .ok (.iload_n 3, 1) := by decide +kernel
theorem dX11_same_84 : decode cX11_same 84 = .ok (.iadd, 1) := by decide +kernel
theorem dX11_same_85 : decode cX11_same 85 = .ok (.iaload, 1) := by decide +kernel
theorem dX11_same_86 : decode cX11_same 86 = .ok (.if_icmp .eq 5, 3) := by decide +kernel
theorem dX11_same_89 : decode cX11_same 89 = .ok (.iconst 0, 1) := by decide +kernel
theorem dX11_same_90 : decode cX11_same 90 = .ok (.ireturn, 1) := by decide +kernel
theorem dX11_same_91 : decode cX11_same 91 = .ok (.iinc 3 1, 3) := by decide +kernel
theorem dX11_same_94 : decode cX11_same 94 = .ok (.goto (-41), 3) := by decide +kernel
theorem dX11_same_97 : decode cX11_same 97 = .ok (.iconst 1, 1) := by decide +kernel
theorem dX11_same_98 : decode cX11_same 98 = .ok (.ireturn, 1) := by decide +kernel
theorem dX11_chain_0 : decode cX11_chain 0 = .ok (.aload_n 0, 1) := by decide +kernel
theorem dX11_chain_1 : decode cX11_chain 1 = .ok (.iconst 0, 1) := by decide +kernel
theorem dX11_chain_2 : decode cX11_chain 2 = .ok (.putfield 61, 3) := by decide +kernel
theorem dX11_chain_5 : decode cX11_chain 5 = .ok (.iload_n 1, 1) := by decide +kernel
theorem dX11_chain_6 : decode cX11_chain 6 = .ok (.invokestatic 245, 3) := by decide +kernel
theorem dX11_chain_9 : decode cX11_chain 9 = .ok (.ifCond .eq 22, 3) := by decide +kernel
theorem dX11_chain_12 : decode cX11_chain 12 = .ok (.aload_n 0, 1) := by decide +kernel
theorem dX11_chain_13 : decode cX11_chain 13 = .ok (.getfield 21, 3) := by decide +kernel
theorem dX11_chain_16 : decode cX11_chain 16 = .ok (.iload_n 1, 1) := by decide +kernel
theorem dX11_chain_17 : decode cX11_chain 17 = .ok (.iaload, 1) := by decide +kernel
theorem dX11_chain_18 : decode cX11_chain 18 = .ok (.ifCond .eq 13, 3) := by decide +kernel
theorem dX11_chain_21 : decode cX11_chain 21 = .ok (.iload_n 3, 1) := by decide +kernel
theorem dX11_chain_22 : decode cX11_chain 22 = .ok (.ifCond .lt 9, 3) := by decide +kernel
theorem dX11_chain_25 : decode cX11_chain 25 = .ok (.iload_n 3, 1) := by decide +kernel
theorem dX11_chain_26 : decode cX11_chain 26 = .ok (.bipush 6, 2) := by decide +kernel
theorem dX11_chain_28 : decode cX11_chain 28 = .ok (.if_icmp .le 5, 3) := by decide +kernel
theorem dX11_chain_31 : decode cX11_chain 31 = .ok (.iconst (-1), 1) := by decide +kernel
theorem dX11_chain_32 : decode cX11_chain 32 = .ok (.ireturn, 1) := by decide +kernel
theorem dX11_chain_33 : decode cX11_chain 33 = .ok (.iconst 0, 1) := by decide +kernel
theorem dX11_chain_34 : decode cX11_chain 34 = .ok (.istore 4, 2) := by decide +kernel
theorem dX11_chain_36 : decode cX11_chain 36 = .ok (.iconst 1, 1) := by decide +kernel
theorem dX11_chain_37 : decode cX11_chain 37 = .ok (.istore 5, 2) := by decide +kernel
theorem dX11_chain_39 : decode cX11_chain 39 = .ok (.iload 5, 2) := by decide +kernel
theorem dX11_chain_41 : decode cX11_chain 41 = .ok (.ifCond .eq 131, 3) := by decide +kernel
theorem dX11_chain_44 : decode cX11_chain 44 = .ok (.iload 4, 2) := by decide +kernel
theorem dX11_chain_46 : decode cX11_chain 46 = .ok (.iload_n 3, 1) := by decide +kernel
theorem dX11_chain_47 : decode cX11_chain 47 = .ok (.if_icmp .ge 125, 3) := by decide +kernel
theorem dX11_chain_50 : decode cX11_chain 50 = .ok (.iload_n 2, 1) := by decide +kernel
theorem dX11_chain_51 : decode cX11_chain 51 = .ok (.iconst 5, 1) := by decide +kernel
theorem dX11_chain_52 : decode cX11_chain 52 = .ok (.iload 4, 2) := by decide +kernel
theorem dX11_chain_54 : decode cX11_chain 54 = .ok (.imul, 1) := by decide +kernel
theorem dX11_chain_55 : decode cX11_chain 55 = .ok (.ishr, 1) := by decide +kernel
theorem dX11_chain_56 : decode cX11_chain 56 = .ok (.bipush 31, 2) := by decide +kernel
theorem dX11_chain_58 : decode cX11_chain 58 = .ok (.iand, 1) := by decide +kernel
theorem dX11_chain_59 : decode cX11_chain 59 = .ok (.istore 6, 2) := by decide +kernel
theorem dX11_chain_61 : decode cX11_chain 61 = .ok (.iload 6, 2) := by decide +kernel
theorem dX11_chain_63 : decode cX11_chain 63 = .ok (.bipush 17, 2) := by decide +kernel
theorem dX11_chain_65 : decode cX11_chain 65 = .ok (.if_icmp .gt 17, 3) := by decide +kernel
theorem dX11_chain_68 : decode cX11_chain 68 = .ok (.aload_n 0, 1) := by decide +kernel
theorem dX11_chain_69 : decode cX11_chain 69 = .ok (.iload_n 1, 1) := by decide +kernel
theorem dX11_chain_70 : decode cX11_chain 70 = .ok (.iload 6, 2) := by decide +kernel
theorem dX11_chain_72 : decode cX11_chain 72 = .ok (.invokevirtual 328, 3) := by decide +kernel
theorem dX11_chain_75 : decode cX11_chain 75 = .ok (.ifCond .eq 7, 3) := by decide +kernel
theorem dX11_chain_78 : decode cX11_chain 78 = .ok (.iconst 1, 1) := by decide +kernel
theorem dX11_chain_79 : decode cX11_chain 79 = .ok (.goto 4, 3) := by decide +kernel
theorem dX11_chain_82 : decode cX11_chain 82 = .ok (.iconst 0, 1) := by decide +kernel
theorem dX11_chain_83 : decode cX11_chain 83 = .ok (.istore 5, 2) := by decide +kernel
theorem dX11_chain_85 : decode cX11_chain 85 = .ok (.iload 5, 2) := by decide +kernel
theorem dX11_chain_87 : decode cX11_chain 87 = .ok (.ifCond .eq 82, 3) := by decide +kernel
theorem dX11_chain_90 : decode cX11_chain 90 = .ok (.aload_n 0, 1) := by decide +kernel
theorem dX11_chain_91 : decode cX11_chain 91 = .ok (.iload_n 1, 1) := by decide +kernel
theorem dX11_chain_92 : decode cX11_chain 92 = .ok (.iload 6, 2) := by decide +kernel
theorem dX11_chain_94 : decode cX11_chain 94 = .ok (.invokevirtual 331, 3) := by decide +kernel
theorem dX11_chain_97 : decode cX11_chain 97 = .ok (.iload 6, 2) := by decide +kernel
theorem dX11_chain_99 : decode cX11_chain 99 = .ok (.ifCond .ne 7, 3) := by decide +kernel
theorem dX11_chain_102 : decode cX11_chain 102 = .ok (.iconst 0, 1) := by decide +kernel
theorem dX11_chain_103 : decode cX11_chain 103 = .ok (.goto 37, 3) := by decide +kernel
theorem dX11_chain_106 : decode cX11_chain 106 = .ok (.iload 6, 2) := by decide +kernel
theorem dX11_chain_108 : decode cX11_chain 108 = .ok (.bipush 7, 2) := by decide +kernel
theorem dX11_chain_110 : decode cX11_chain 110 = .ok (.if_icmp .ge 7, 3) := by decide +kernel
theorem dX11_chain_113 : decode cX11_chain 113 = .ok (.iconst 1, 1) := by decide +kernel
theorem dX11_chain_114 : decode cX11_chain 114 = .ok (.goto 26, 3) := by decide +kernel
theorem dX11_chain_117 : decode cX11_chain 117 = .ok (.iload 6, 2) := by decide +kernel
theorem dX11_chain_119 : decode cX11_chain 119 = .ok (.bipush 10, 2) := by decide +kernel
theorem dX11_chain_121 : decode cX11_chain 121 = .ok (.if_icmp .ge 7, 3) := by decide +kernel
theorem dX11_chain_124 : decode cX11_chain 124 = .ok (.iconst 2, 1) := by decide +kernel
theorem dX11_chain_125 : decode cX11_chain 125 = .ok (.goto 15, 3) := by decide +kernel
theorem dX11_chain_128 : decode cX11_chain 128 = .ok (.iload 6, 2) := by decide +kernel
theorem dX11_chain_130 : decode cX11_chain 130 = .ok (.bipush 16, 2) := by decide +kernel
theorem dX11_chain_132 : decode cX11_chain 132 = .ok (.if_icmp .ge 7, 3) := by decide +kernel
theorem dX11_chain_135 : decode cX11_chain 135 = .ok (.iconst 3, 1) := by decide +kernel
theorem dX11_chain_136 : decode cX11_chain 136 = .ok (.goto 4, 3) := by decide +kernel
theorem dX11_chain_139 : decode cX11_chain 139 = .ok (.iconst 4, 1) := by decide +kernel
theorem dX11_chain_140 : decode cX11_chain 140 = .ok (.istore 7, 2) := by decide +kernel
theorem dX11_chain_142 : decode cX11_chain 142 = .ok (.aload_n 0, 1) := by decide +kernel
theorem dX11_chain_143 : decode cX11_chain 143 = .ok (.iload 7, 2) := by decide +kernel
theorem dX11_chain_145 : decode cX11_chain 145 = .ok (.aload_n 0, 1) := by decide +kernel
theorem dX11_chain_146 : decode cX11_chain 146 = .ok (.getfield 14, 3) := by decide +kernel
theorem dX11_chain_149 : decode cX11_chain 149 = .ok (.aload_n 0, 1) := by decide +kernel
theorem dX11_chain_150 : decode cX11_chain 150 = .ok (.getfield 75, 3) := by decide +kernel
theorem dX11_chain_153 : decode cX11_chain 153 = .ok (.invokevirtual 248, 3) := by decide +kernel

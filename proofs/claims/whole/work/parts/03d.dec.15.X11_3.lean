theorem dX11_readPlainRows_308 : decode cX11_readPlainRows 308 = .ok (.invokevirtual 99, 3) := by decide +kernel
theorem dX11_readPlainRows_311 : decode cX11_readPlainRows 311 = .ok (.sipush 255, 3) := by decide +kernel
theorem dX11_readPlainRows_314 : decode cX11_readPlainRows 314 = .ok (.invokestatic 115, 3) := by decide +kernel
theorem dX11_readPlainRows_317 : decode cX11_readPlainRows 317 = .ok (.iastore, 1) := by decide +kernel
theorem dX11_readPlainRows_318 : decode cX11_readPlainRows 318 = .ok (.aload_n 0, 1) := by decide +kernel
theorem dX11_readPlainRows_319 : decode cX11_readPlainRows 319 = .ok (.dup, 1) := by decide +kernel
theorem dX11_readPlainRows_320 : decode cX11_readPlainRows 320 = .ok (.getfield 84, 3) := by decide +kernel
theorem dX11_readPlainRows_323 : decode cX11_readPlainRows 323 = .ok (.iload 8, 2) := by decide +kernel
theorem dX11_readPlainRows_325 : decode cX11_readPlainRows 325 = .ok (.iadd, 1) := by decide +kernel
theorem dX11_readPlainRows_326 : decode cX11_readPlainRows 326 = .ok (.putfield 84, 3) := by decide +kernel
theorem dX11_readPlainRows_329 : decode cX11_readPlainRows 329 = .ok (.iinc 6 1, 3) := by decide +kernel
theorem dX11_readPlainRows_332 : decode cX11_readPlainRows 332 = .ok (.goto (-277), 3) := by decide +kernel
theorem dX11_readPlainRows_335 : decode cX11_readPlainRows 335 = .ok (.iload_n 2, 1) := by decide +kernel
theorem dX11_readPlainRows_336 : decode cX11_readPlainRows 336 = .ok (.aload_n 0, 1) := by decide +kernel
theorem dX11_readPlainRows_337 : decode cX11_readPlainRows 337 = .ok (.getfield 84, 3) := by decide +kernel
theorem dX11_readPlainRows_340 : decode cX11_readPlainRows 340 = .ok (.iload 5, 2) := by decide +kernel
theorem dX11_readPlainRows_342 : decode cX11_readPlainRows 342 = .ok (.isub, 1) := by decide +kernel
theorem dX11_readPlainRows_343 : decode cX11_readPlainRows 343 = .ok (.isub, 1) := by decide +kernel
theorem dX11_readPlainRows_344 : decode cX11_readPlainRows 344 = .ok (.istore 6, 2) := by decide +kernel
theorem dX11_readPlainRows_346 : decode cX11_readPlainRows 346 = .ok (.aload_n 0, 1) := by decide +kernel
theorem dX11_readPlainRows_347 : decode cX11_readPlainRows 347 = .ok (.iload 6, 2) := by decide +kernel
theorem dX11_readPlainRows_349 : decode cX11_readPlainRows 349 = .ok (.invokevirtual 103, 3) := by decide +kernel
theorem dX11_readPlainRows_352 : decode cX11_readPlainRows 352 = .ok (.ifCond .ne 5, 3) := by decide +kernel
theorem dX11_readPlainRows_355 : decode cX11_readPlainRows 355 = .ok (.iconst 0, 1) := by decide +kernel
theorem dX11_readPlainRows_356 : decode cX11_readPlainRows 356 = .ok (.ireturn, 1) := by decide +kernel
theorem dX11_readPlainRows_357 : decode cX11_readPlainRows 357 = .ok (.aload_n 0, 1) := by decide +kernel
theorem dX11_readPlainRows_358 : decode cX11_readPlainRows 358 = .ok (.dup, 1) := by decide +kernel
theorem dX11_readPlainRows_359 : decode cX11_readPlainRows 359 = .ok (.getfield 84, 3) := by decide +kernel
theorem dX11_readPlainRows_362 : decode cX11_readPlainRows 362 = .ok (.iload 6, 2) := by decide +kernel
theorem dX11_readPlainRows_364 : decode cX11_readPlainRows 364 = .ok (.iadd, 1) := by decide +kernel
theorem dX11_readPlainRows_365 : decode cX11_readPlainRows 365 = .ok (.putfield 84, 3) := by decide +kernel
theorem dX11_readPlainRows_368 : decode cX11_readPlainRows 368 = .ok (.iinc 3 1, 3) := by decide +kernel
theorem dX11_readPlainRows_371 : decode cX11_readPlainRows 371 = .ok (.goto (-351), 3) := by decide +kernel
theorem dX11_readPlainRows_374 : decode cX11_readPlainRows 374 = .ok (.aload_n 0, 1) := by decide +kernel
theorem dX11_readPlainRows_375 : decode cX11_readPlainRows 375 = .ok (.invokevirtual 145, 3) := by decide +kernel
theorem dX11_readPlainRows_378 : decode cX11_readPlainRows 378 = .ok (.ireturn, 1) := by decide +kernel
theorem dX11_readPairs_0 : decode cX11_readPairs 0 = .ok (.iconst 0, 1) := by decide +kernel
theorem dX11_readPairs_1 : decode cX11_readPairs 1 = .ok (.istore_n 1, 1) := by decide +kernel
theorem dX11_readPairs_2 : decode cX11_readPairs 2 = .ok (.iload_n 1, 1) := by decide +kernel
theorem dX11_readPairs_3 : decode cX11_readPairs 3 = .ok (.aload_n 0, 1) := by decide +kernel
theorem dX11_readPairs_4 : decode cX11_readPairs 4 = .ok (.getfield 109, 3) := by decide +kernel
theorem dX11_readPairs_7 : decode cX11_readPairs 7 = .ok (.aload_n 0, 1) := by decide +kernel
theorem dX11_readPairs_8 : decode cX11_readPairs 8 = .ok (.getfield 112, 3) := by decide +kernel
theorem dX11_readPairs_11 : decode cX11_readPairs 11 = .ok (.imul, 1) := by decide +kernel
theorem dX11_readPairs_12 : decode cX11_readPairs 12 = .ok (.if_icmp .ge 21, 3) := by decide +kernel
theorem dX11_readPairs_15 : decode cX11_readPairs 15 = .ok (.aload_n 0, 1) := by decide +kernel
theorem dX11_readPairs_16 : decode cX11_readPairs 16 = .ok (.getfield 27, 3) := by decide +kernel
theorem dX11_readPairs_19 : decode cX11_readPairs 19 = .ok (.iload_n 1, 1) := by decide +kernel
theorem dX11_readPairs_20 : decode cX11_readPairs 20 = .ok (.aload_n 0, 1) := by decide +kernel
theorem dX11_readPairs_21 : decode cX11_readPairs 21 = .ok (.getfield 49, 3) := by decide +kernel
theorem dX11_readPairs_24 : decode cX11_readPairs 24 = .ok (.iconst 0, 1) := by decide +kernel
theorem dX11_readPairs_25 : decode cX11_readPairs 25 = .ok (.iaload, 1) := by decide +kernel
theorem dX11_readPairs_26 : decode cX11_readPairs 26 = .ok (.iastore, 1) := by decide +kernel
theorem dX11_readPairs_27 : decode cX11_readPairs 27 = .ok (.iinc 1 1, 3) := by decide +kernel
theorem dX11_readPairs_30 : decode cX11_readPairs 30 = .ok (.goto (-28), 3) := by decide +kernel
theorem dX11_readPairs_33 : decode cX11_readPairs 33 = .ok (.iconst 0, 1) := by decide +kernel
theorem dX11_readPairs_34 : decode cX11_readPairs 34 = .ok (.istore_n 1, 1) := by decide +kernel
theorem dX11_readPairs_35 : decode cX11_readPairs 35 = .ok (.iconst 0, 1) := by decide +kernel
theorem dX11_readPairs_36 : decode cX11_readPairs 36 = .ok (.istore_n 2, 1) := by decide +kernel
theorem dX11_readPairs_37 : decode cX11_readPairs 37 = .ok (.iconst 1, 1) := by decide +kernel
theorem dX11_readPairs_38 : decode cX11_readPairs 38 = .ok (.istore_n 3, 1) := by decide +kernel
theorem dX11_readPairs_39 : decode cX11_readPairs 39 = .ok (.iload_n 3, 1) := by decide +kernel
theorem dX11_readPairs_40 : decode cX11_readPairs 40 = .ok (.ifCond .eq 490, 3) := by decide +kernel
theorem dX11_readPairs_43 : decode cX11_readPairs 43 = .ok (.aload_n 0, 1) := by decide +kernel
theorem dX11_readPairs_44 : decode cX11_readPairs 44 = .ok (.iconst 2, 1) := by decide +kernel
theorem dX11_readPairs_45 : decode cX11_readPairs 45 = .ok (.invokevirtual 103, 3) := by decide +kernel
theorem dX11_readPairs_48 : decode cX11_readPairs 48 = .ok (.ifCond .ne 5, 3) := by decide +kernel
theorem dX11_readPairs_51 : decode cX11_readPairs 51 = .ok (.iconst 0, 1) := by decide +kernel
theorem dX11_readPairs_52 : decode cX11_readPairs 52 = .ok (.ireturn, 1) := by decide +kernel
theorem dX11_readPairs_53 : decode cX11_readPairs 53 = .ok (.aload_n 0, 1) := by decide +kernel
theorem dX11_readPairs_54 : decode cX11_readPairs 54 = .ok (.getfield 84, 3) := by decide +kernel
theorem dX11_readPairs_57 : decode cX11_readPairs 57 = .ok (.istore 4, 2) := by decide +kernel
theorem dX11_readPairs_59 : decode cX11_readPairs 59 = .ok (.aload_n 0, 1) := by decide +kernel
theorem dX11_readPairs_60 : decode cX11_readPairs 60 = .ok (.aload_n 0, 1) := by decide +kernel
theorem dX11_readPairs_61 : decode cX11_readPairs 61 = .ok (.getfield 84, 3) := by decide +kernel
theorem dX11_readPairs_64 : decode cX11_readPairs 64 = .ok (.invokevirtual 99, 3) := by decide +kernel
theorem dX11_readPairs_67 : decode cX11_readPairs 67 = .ok (.istore 5, 2) := by decide +kernel
theorem dX11_readPairs_69 : decode cX11_readPairs 69 = .ok (.aload_n 0, 1) := by decide +kernel
theorem dX11_readPairs_70 : decode cX11_readPairs 70 = .ok (.aload_n 0, 1) := by decide +kernel
theorem dX11_readPairs_71 : decode cX11_readPairs 71 = .ok (.getfield 84, 3) := by decide +kernel
theorem dX11_readPairs_74 : decode cX11_readPairs 74 = .ok (.iconst 1, 1) := by decide +kernel
theorem dX11_readPairs_75 : decode cX11_readPairs 75 = .ok (.iadd, 1) := by decide +kernel
theorem dX11_readPairs_76 : decode cX11_readPairs 76 = .ok (.invokevirtual 99, 3) := by decide +kernel
theorem dX11_readPairs_79 : decode cX11_readPairs 79 = .ok (.istore 6, 2) := by decide +kernel
theorem dX11_readPairs_81 : decode cX11_readPairs 81 = .ok (.aload_n 0, 1) := by decide +kernel
theorem dX11_readPairs_82 : decode cX11_readPairs 82 = .ok (.dup, 1) := by decide +kernel
theorem dX11_readPairs_83 : decode cX11_readPairs 83 = .ok (.getfield 84, 3) := by decide +kernel
theorem dX11_readPairs_86 : decode cX11_readPairs 86 = .ok (.iconst 2, 1) := by decide +kernel
theorem dX11_readPairs_87 : decode cX11_readPairs 87 = .ok (.iadd, 1) := by decide +kernel
theorem dX11_readPairs_88 : decode cX11_readPairs 88 = .ok (.putfield 84, 3) := by decide +kernel
theorem dX11_readPairs_91 : decode cX11_readPairs 91 = .ok (.iload 5, 2) := by decide +kernel
theorem dX11_readPairs_93 : decode cX11_readPairs 93 = .ok (.ifCond .le 114, 3) := by decide +kernel
theorem dX11_readPairs_96 : decode cX11_readPairs 96 = .ok (.iload_n 2, 1) := by decide +kernel
theorem dX11_readPairs_97 : decode cX11_readPairs 97 = .ok (.aload_n 0, 1) := by decide +kernel
theorem dX11_readPairs_98 : decode cX11_readPairs 98 = .ok (.getfield 112, 3) := by decide +kernel
theorem dX11_readPairs_101 : decode cX11_readPairs 101 = .ok (.if_icmp .ge 14, 3) := by decide +kernel
theorem dX11_readPairs_104 : decode cX11_readPairs 104 = .ok (.iload_n 1, 1) := by decide +kernel
theorem dX11_readPairs_105 : decode cX11_readPairs 105 = .ok (.iload 5, 2) := by decide +kernel
theorem dX11_readPairs_107 : decode cX11_readPairs 107 = .ok (.iadd, 1) := by decide +kernel
theorem dX11_readPairs_108 : decode cX11_readPairs 108 = .ok (.aload_n 0, 1) := by decide +kernel
theorem dX11_readPairs_109 : decode cX11_readPairs 109 = .ok (.getfield 109, 3) := by decide +kernel
theorem dX11_readPairs_112 : decode cX11_readPairs 112 = .ok (.if_icmp .le 11, 3) := by decide +kernel
theorem dX11_readPairs_115 : decode cX11_readPairs 115 = .ok (.aload_n 0, 1) := by decide +kernel
theorem dX11_readPairs_116 : decode cX11_readPairs 116 = .ok (.iconst 4, 1) := by decide +kernel
theorem dX11_readPairs_117 : decode cX11_readPairs 117 = .ok (.iload 4, 2) := by decide +kernel
theorem dX11_readPairs_119 : decode cX11_readPairs 119 = .ok (.invokevirtual 90, 3) := by decide +kernel
theorem dX11_readPairs_122 : decode cX11_readPairs 122 = .ok (.ireturn, 1) := by decide +kernel
theorem dX11_readPairs_123 : decode cX11_readPairs 123 = .ok (.iconst 0, 1) := by decide +kernel
theorem dX11_readPairs_124 : decode cX11_readPairs 124 = .ok (.istore 7, 2) := by decide +kernel
theorem dX11_readPairs_126 : decode cX11_readPairs 126 = .ok (.iload 7, 2) := by decide +kernel
theorem dX11_readPairs_128 : decode cX11_readPairs 128 = .ok (.iload 5, 2) := by decide +kernel
theorem dX11_readPairs_130 : decode cX11_readPairs 130 = .ok (.if_icmp .ge 74, 3) := by decide +kernel
theorem dX11_readPairs_133 : decode cX11_readPairs 133 = .ok (.aload_n 0, 1) := by decide +kernel
theorem dX11_readPairs_134 : decode cX11_readPairs 134 = .ok (.getfield 133, 3) := by decide +kernel
theorem dX11_readPairs_137 : decode cX11_readPairs 137 = .ok (.iconst 1, 1) := by decide +kernel
theorem dX11_readPairs_138 : decode cX11_readPairs 138 = .ok (.if_icmp .ne 8, 3) := by decide +kernel
theorem dX11_readPairs_141 : decode cX11_readPairs 141 = .ok (.iload 6, 2) := by decide +kernel
theorem dX11_readPairs_143 : decode cX11_readPairs 143 = .ok (.goto 22, 3) := by decide +kernel
theorem dX11_readPairs_146 : decode cX11_readPairs 146 = .ok (.iload 7, 2) := by decide +kernel
theorem dX11_readPairs_148 : decode cX11_readPairs 148 = .ok (.iconst 2, 1) := by decide +kernel
theorem dX11_readPairs_149 : decode cX11_readPairs 149 = .ok (.irem, 1) := by decide +kernel
theorem dX11_readPairs_150 : decode cX11_readPairs 150 = .ok (.ifCond .ne 10, 3) := by decide +kernel
theorem dX11_readPairs_153 : decode cX11_readPairs 153 = .ok (.iload 6, 2) := by decide +kernel
theorem dX11_readPairs_155 : decode cX11_readPairs 155 = .ok (.iconst 4, 1) := by decide +kernel
theorem dX11_readPairs_156 : decode cX11_readPairs 156 = .ok (.ishr, 1) := by decide +kernel
theorem dX11_readPairs_157 : decode cX11_readPairs 157 = .ok (.goto 8, 3) := by decide +kernel
theorem dX11_readPairs_160 : decode cX11_readPairs 160 = .ok (.iload 6, 2) := by decide +kernel
theorem dX11_readPairs_162 : decode cX11_readPairs 162 = .ok (.bipush 15, 2) := by decide +kernel
theorem dX11_readPairs_164 : decode cX11_readPairs 164 = .ok (.iand, 1) := by decide +kernel
theorem dX11_readPairs_165 : decode cX11_readPairs 165 = .ok (.istore 8, 2) := by decide +kernel
theorem dX11_readPairs_167 : decode cX11_readPairs 167 = .ok (.iload 8, 2) := by decide +kernel
theorem dX11_readPairs_169 : decode cX11_readPairs 169 = .ok (.aload_n 0, 1) := by decide +kernel
theorem dX11_readPairs_170 : decode cX11_readPairs 170 = .ok (.getfield 136, 3) := by decide +kernel
theorem dX11_readPairs_173 : decode cX11_readPairs 173 = .ok (.if_icmp .lt 14, 3) := by decide +kernel
theorem dX11_readPairs_176 : decode cX11_readPairs 176 = .ok (.aload_n 0, 1) := by decide +kernel
theorem dX11_readPairs_177 : decode cX11_readPairs 177 = .ok (.bipush 6, 2) := by decide +kernel
theorem dX11_readPairs_179 : decode cX11_readPairs 179 = .ok (.iload 4, 2) := by decide +kernel
theorem dX11_readPairs_181 : decode cX11_readPairs 181 = .ok (.iconst 1, 1) := by decide +kernel
theorem dX11_readPairs_182 : decode cX11_readPairs 182 = .ok (.iadd, 1) := by decide +kernel
theorem dX11_readPairs_183 : decode cX11_readPairs 183 = .ok (.invokevirtual 90, 3) := by decide +kernel
theorem dX11_readPairs_186 : decode cX11_readPairs 186 = .ok (.ireturn, 1) := by decide +kernel
theorem dX11_readPairs_187 : decode cX11_readPairs 187 = .ok (.aload_n 0, 1) := by decide +kernel
theorem dX11_readPairs_188 : decode cX11_readPairs 188 = .ok (.iload_n 1, 1) := by decide +kernel
theorem dX11_readPairs_189 : decode cX11_readPairs 189 = .ok (.iload_n 2, 1) := by decide +kernel
theorem dX11_readPairs_190 : decode cX11_readPairs 190 = .ok (.iload 8, 2) := by decide +kernel
theorem dX11_readPairs_192 : decode cX11_readPairs 192 = .ok (.invokevirtual 204, 3) := by decide +kernel
theorem dX11_readPairs_195 : decode cX11_readPairs 195 = .ok (.iinc 1 1, 3) := by decide +kernel
theorem dX11_readPairs_198 : decode cX11_readPairs 198 = .ok (.iinc 7 1, 3) := by decide +kernel
theorem dX11_readPairs_201 : decode cX11_readPairs 201 = .ok (.goto (-75), 3) := by decide +kernel
theorem dX11_readPairs_204 : decode cX11_readPairs 204 = .ok (.goto 323, 3) := by decide +kernel
theorem dX11_readPairs_207 : decode cX11_readPairs 207 = .ok (.iload 6, 2) := by decide +kernel
theorem dX11_readPairs_209 : decode cX11_readPairs 209 = .ok (.ifCond .ne 27, 3) := by decide +kernel
theorem dX11_readPairs_212 : decode cX11_readPairs 212 = .ok (.iload_n 2, 1) := by decide +kernel
theorem dX11_readPairs_213 : decode cX11_readPairs 213 = .ok (.aload_n 0, 1) := by decide +kernel
theorem dX11_readPairs_214 : decode cX11_readPairs 214 = .ok (.getfield 112, 3) := by decide +kernel
theorem dX11_readPairs_217 : decode cX11_readPairs 217 = .ok (.if_icmp .lt 11, 3) := by decide +kernel
theorem dX11_readPairs_220 : decode cX11_readPairs 220 = .ok (.aload_n 0, 1) := by decide +kernel
theorem dX11_readPairs_221 : decode cX11_readPairs 221 = .ok (.iconst 4, 1) := by decide +kernel
theorem dX11_readPairs_222 : decode cX11_readPairs 222 = .ok (.iload 4, 2) := by decide +kernel
theorem dX11_readPairs_224 : decode cX11_readPairs 224 = .ok (.invokevirtual 90, 3) := by decide +kernel
theorem dX11_readPairs_227 : decode cX11_readPairs 227 = .ok (.ireturn, 1) := by decide +kernel
theorem dX11_readPairs_228 : decode cX11_readPairs 228 = .ok (.iconst 0, 1) := by decide +kernel
theorem dX11_readPairs_229 : decode cX11_readPairs 229 = .ok (.istore_n 1, 1) := by decide +kernel
theorem dX11_readPairs_230 : decode cX11_readPairs 230 = .ok (.iinc 2 1, 3) := by decide +kernel
theorem dX11_readPairs_233 : decode cX11_readPairs 233 = .ok (.goto 294, 3) := by decide +kernel
theorem dX11_readPairs_236 : decode cX11_readPairs 236 = .ok (.iload 6, 2) := by decide +kernel
theorem dX11_readPairs_238 : decode cX11_readPairs 238 = .ok (.iconst 1, 1) := by decide +kernel
theorem dX11_readPairs_239 : decode cX11_readPairs 239 = .ok (.if_icmp .ne 8, 3) := by decide +kernel
theorem dX11_readPairs_242 : decode cX11_readPairs 242 = .ok (.iconst 0, 1) := by decide +kernel
theorem dX11_readPairs_243 : decode cX11_readPairs 243 = .ok (.istore_n 3, 1) := by decide +kernel
theorem dX11_readPairs_244 : decode cX11_readPairs 244 = .ok (.goto 283, 3) := by decide +kernel
theorem dX11_readPairs_247 : decode cX11_readPairs 247 = .ok (.iload 6, 2) := by decide +kernel
theorem dX11_readPairs_249 : decode cX11_readPairs 249 = .ok (.iconst 2, 1) := by decide +kernel
theorem dX11_readPairs_250 : decode cX11_readPairs 250 = .ok (.if_icmp .ne 71, 3) := by decide +kernel
theorem dX11_readPairs_253 : decode cX11_readPairs 253 = .ok (.aload_n 0, 1) := by decide +kernel
theorem dX11_readPairs_254 : decode cX11_readPairs 254 = .ok (.iconst 2, 1) := by decide +kernel
theorem dX11_readPairs_255 : decode cX11_readPairs 255 = .ok (.invokevirtual 103, 3) := by decide +kernel
theorem dX11_readPairs_258 : decode cX11_readPairs 258 = .ok (.ifCond .ne 5, 3) := by decide +kernel
theorem dX11_readPairs_261 : decode cX11_readPairs 261 = .ok (.iconst 0, 1) := by decide +kernel
theorem dX11_readPairs_262 : decode cX11_readPairs 262 = .ok (.ireturn, 1) := by decide +kernel
theorem dX11_readPairs_263 : decode cX11_readPairs 263 = .ok (.iload_n 1, 1) := by decide +kernel
theorem dX11_readPairs_264 : decode cX11_readPairs 264 = .ok (.aload_n 0, 1) := by decide +kernel
theorem dX11_readPairs_265 : decode cX11_readPairs 265 = .ok (.aload_n 0, 1) := by decide +kernel
theorem dX11_readPairs_266 : decode cX11_readPairs 266 = .ok (.getfield 84, 3) := by decide +kernel
theorem dX11_readPairs_269 : decode cX11_readPairs 269 = .ok (.invokevirtual 99, 3) := by decide +kernel
theorem dX11_readPairs_272 : decode cX11_readPairs 272 = .ok (.iadd, 1) := by decide +kernel
theorem dX11_readPairs_273 : decode cX11_readPairs 273 = .ok (.istore_n 1, 1) := by decide +kernel
theorem dX11_readPairs_274 : decode cX11_readPairs 274 = .ok (.iload_n 2, 1) := by decide +kernel
theorem dX11_readPairs_275 : decode cX11_readPairs 275 = .ok (.aload_n 0, 1) := by decide +kernel
theorem dX11_readPairs_276 : decode cX11_readPairs 276 = .ok (.aload_n 0, 1) := by decide +kernel
theorem dX11_readPairs_277 : decode cX11_readPairs 277 = .ok (.getfield 84, 3) := by decide +kernel
theorem dX11_readPairs_280 : decode cX11_readPairs 280 = .ok (.iconst 1, 1) := by decide +kernel
theorem dX11_readPairs_281 : decode cX11_readPairs 281 = .ok (.iadd, 1) := by decide +kernel
theorem dX11_readPairs_282 : decode cX11_readPairs 282 = .ok (.invokevirtual 99, 3) := by decide +kernel
theorem dX11_readPairs_285 : decode cX11_readPairs 285 = .ok (.iadd, 1) := by decide +kernel
theorem dX11_readPairs_286 : decode cX11_readPairs 286 = .ok (.istore_n 2, 1) := by decide +kernel
theorem dX11_readPairs_287 : decode cX11_readPairs 287 = .ok (.aload_n 0, 1) := by decide +kernel
theorem dX11_readPairs_288 : decode cX11_readPairs 288 = .ok (.dup, 1) := by decide +kernel
theorem dX11_readPairs_289 : decode cX11_readPairs 289 = .ok (.getfield 84, 3) := by decide +kernel
theorem dX11_readPairs_292 : decode cX11_readPairs 292 = .ok (.iconst 2, 1) := by decide +kernel
theorem dX11_readPairs_293 : decode cX11_readPairs 293 = .ok (.iadd, 1) := by decide +kernel
theorem dX11_readPairs_294 : decode cX11_readPairs 294 = .ok (.putfield 84, 3) := by decide +kernel
theorem dX11_readPairs_297 : decode cX11_readPairs 297 = .ok (.iload_n 1, 1) := by decide +kernel
theorem dX11_readPairs_298 : decode cX11_readPairs 298 = .ok (.aload_n 0, 1) := by decide +kernel
theorem dX11_readPairs_299 : decode cX11_readPairs 299 = .ok (.getfield 109, 3) := by decide +kernel
theorem dX11_readPairs_302 : decode cX11_readPairs 302 = .ok (.if_icmp .gt 11, 3) := by decide +kernel
theorem dX11_readPairs_305 : decode cX11_readPairs 305 = .ok (.iload_n 2, 1) := by decide +kernel
theorem dX11_readPairs_306 : decode cX11_readPairs 306 = .ok (.aload_n 0, 1) := by decide +kernel
theorem dX11_readPairs_307 : decode cX11_readPairs 307 = .ok (.getfield 112, 3) := by decide +kernel
theorem dX11_readPairs_310 : decode cX11_readPairs 310 = .ok (.if_icmp .lt 217, 3) := by decide +kernel
theorem dX11_readPairs_313 : decode cX11_readPairs 313 = .ok (.aload_n 0, 1) := by decide +kernel
theorem dX11_readPairs_314 : decode cX11_readPairs 314 = .ok (.iconst 4, 1) := by decide +kernel
theorem dX11_readPairs_315 : decode cX11_readPairs 315 = .ok (.iload 4, 2) := by decide +kernel
theorem dX11_readPairs_317 : decode cX11_readPairs 317 = .ok (.invokevirtual 90, 3) := by decide +kernel
theorem dX11_readPairs_320 : decode cX11_readPairs 320 = .ok (.ireturn, 1) := by decide +kernel
theorem dX11_readPairs_321 : decode cX11_readPairs 321 = .ok (.iload_n 2, 1) := by decide +kernel
theorem dX11_readPairs_322 : decode cX11_readPairs 322 = .ok (.aload_n 0, 1) := by decide +kernel
theorem dX11_readPairs_323 : decode cX11_readPairs 323 = .ok (.getfield 112, 3) := by decide +kernel
theorem dX11_readPairs_326 : decode cX11_readPairs 326 = .ok (.if_icmp .ge 14, 3) := by decide +kernel
theorem dX11_readPairs_329 : decode cX11_readPairs 329 = .ok (.iload_n 1, 1) := by decide +kernel
theorem dX11_readPairs_330 : decode cX11_readPairs 330 = .ok (.iload 6, 2) := by decide +kernel
theorem dX11_readPairs_332 : decode cX11_readPairs 332 = .ok (.iadd, 1) := by decide +kernel
theorem dX11_readPairs_333 : decode cX11_readPairs 333 = .ok (.aload_n 0, 1) := by decide +kernel
theorem dX11_readPairs_334 : decode cX11_readPairs 334 = .ok (.getfield 109, 3) := by decide +kernel
theorem dX11_readPairs_337 : decode cX11_readPairs 337 = .ok (.if_icmp .le 11, 3) := by decide +kernel
theorem dX11_readPairs_340 : decode cX11_readPairs 340 = .ok (.aload_n 0, 1) := by decide +kernel
theorem dX11_readPairs_341 : decode cX11_readPairs 341 = .ok (.iconst 4, 1) := by decide +kernel
theorem dX11_readPairs_342 : decode cX11_readPairs 342 = .ok (.iload 4, 2) := by decide +kernel
theorem dX11_readPairs_344 : decode cX11_readPairs 344 = .ok (.invokevirtual 90, 3) := by decide +kernel
theorem dX11_readPairs_347 : decode cX11_readPairs 347 = .ok (.ireturn, 1) := by decide +kernel
theorem dX11_readPairs_348 : decode cX11_readPairs 348 = .ok (.aload_n 0, 1) := by decide +kernel
theorem dX11_readPairs_349 : decode cX11_readPairs 349 = .ok (.getfield 133, 3) := by decide +kernel
theorem dX11_readPairs_352 : decode cX11_readPairs 352 = .ok (.iconst 1, 1) := by decide +kernel
theorem dX11_readPairs_353 : decode cX11_readPairs 353 = .ok (.if_icmp .ne 8, 3) := by decide +kernel
theorem dX11_readPairs_356 : decode cX11_readPairs 356 = .ok (.iload 6, 2) := by decide +kernel
theorem dX11_readPairs_358 : decode cX11_readPairs 358 = .ok (.goto 9, 3) := by decide +kernel
theorem dX11_readPairs_361 : decode cX11_readPairs 361 = .ok (.iload 6, 2) := by decide +kernel
theorem dX11_readPairs_363 : decode cX11_readPairs 363 = .ok (.iconst 1, 1) := by decide +kernel
theorem dX11_readPairs_364 : decode cX11_readPairs 364 = .ok (.iadd, 1) := by decide +kernel
theorem dX11_readPairs_365 : decode cX11_readPairs 365 = .ok (.iconst 2, 1) := by decide +kernel
theorem dX11_readPairs_366 : decode cX11_readPairs 366 = .ok (.idiv, 1) := by decide +kernel
theorem dX11_readPairs_367 : decode cX11_readPairs 367 = .ok (.istore 7, 2) := by decide +kernel
theorem dX11_readPairs_369 : decode cX11_readPairs 369 = .ok (.iconst 0, 1) := by decide +kernel
theorem dX11_readPairs_370 : decode cX11_readPairs 370 = .ok (.istore 8, 2) := by decide +kernel
theorem dX11_readPairs_372 : decode cX11_readPairs 372 = .ok (.iload 8, 2) := by decide +kernel
theorem dX11_readPairs_374 : decode cX11_readPairs 374 = .ok (.iload 6, 2) := by decide +kernel
theorem dX11_readPairs_376 : decode cX11_readPairs 376 = .ok (.if_icmp .ge 123, 3) := by decide +kernel
theorem dX11_readPairs_379 : decode cX11_readPairs 379 = .ok (.aload_n 0, 1) := by decide +kernel
theorem dX11_readPairs_380 : decode cX11_readPairs 380 = .ok (.getfield 133, 3) := by decide +kernel
theorem dX11_readPairs_383 : decode cX11_readPairs 383 = .ok (.iconst 1, 1) := by decide +kernel
theorem dX11_readPairs_384 : decode cX11_readPairs 384 = .ok (.if_icmp .eq 10, 3) := by decide +kernel
theorem dX11_readPairs_387 : decode cX11_readPairs 387 = .ok (.iload 8, 2) := by decide +kernel
theorem dX11_readPairs_389 : decode cX11_readPairs 389 = .ok (.iconst 2, 1) := by decide +kernel
theorem dX11_readPairs_390 : decode cX11_readPairs 390 = .ok (.irem, 1) := by decide +kernel
theorem dX11_readPairs_391 : decode cX11_readPairs 391 = .ok (.ifCond .ne 23, 3) := by decide +kernel
theorem dX11_readPairs_394 : decode cX11_readPairs 394 = .ok (.aload_n 0, 1) := by decide +kernel
theorem dX11_readPairs_395 : decode cX11_readPairs 395 = .ok (.iconst 1, 1) := by decide +kernel
theorem dX11_readPairs_396 : decode cX11_readPairs 396 = .ok (.invokevirtual 103, 3) := by decide +kernel
theorem dX11_readPairs_399 : decode cX11_readPairs 399 = .ok (.ifCond .ne 5, 3) := by decide +kernel
theorem dX11_readPairs_402 : decode cX11_readPairs 402 = .ok (.iconst 0, 1) := by decide +kernel
theorem dX11_readPairs_403 : decode cX11_readPairs 403 = .ok (.ireturn, 1) := by decide +kernel
theorem dX11_readPairs_404 : decode cX11_readPairs 404 = .ok (.aload_n 0, 1) := by decide +kernel
theorem dX11_readPairs_405 : decode cX11_readPairs 405 = .ok (.dup, 1) := by decide +kernel
theorem dX11_readPairs_406 : decode cX11_readPairs 406 = .ok (.getfield 84, 3) := by decide +kernel
theorem dX11_readPairs_409 : decode cX11_readPairs 409 = .ok (.iconst 1, 1) := by decide +kernel
theorem dX11_readPairs_410 : decode cX11_readPairs 410 = .ok (.iadd, 1) := by decide +kernel
theorem dX11_readPairs_411 : decode cX11_readPairs 411 = .ok (.putfield 84, 3) := by decide +kernel
theorem dX11_readPairs_414 : decode cX11_readPairs 414 = .ok (.aload_n 0, 1) := by decide +kernel
theorem dX11_readPairs_415 : decode cX11_readPairs 415 = .ok (.aload_n 0, 1) := by decide +kernel
theorem dX11_readPairs_416 : decode cX11_readPairs 416 = .ok (.getfield 84, 3) := by decide +kernel
theorem dX11_readPairs_419 : decode cX11_readPairs 419 = .ok (.iconst 1, 1) := by decide +kernel
theorem dX11_readPairs_420 : decode cX11_readPairs 420 = .ok (.isub, 1) := by decide +kernel
theorem dX11_readPairs_421 : decode cX11_readPairs 421 = .ok (.invokevirtual 99, 3) := by decide +kernel
theorem dX11_readPairs_424 : decode cX11_readPairs 424 = .ok (.istore 9, 2) := by decide +kernel
theorem dX11_readPairs_426 : decode cX11_readPairs 426 = .ok (.aload_n 0, 1) := by decide +kernel
theorem dX11_readPairs_427 : decode cX11_readPairs 427 = .ok (.getfield 133, 3) := by decide +kernel
theorem dX11_readPairs_430 : decode cX11_readPairs 430 = .ok (.iconst 1, 1) := by decide +kernel
theorem dX11_readPairs_431 : decode cX11_readPairs 431 = .ok (.if_icmp .ne 8, 3) := by decide +kernel
theorem dX11_readPairs_434 : decode cX11_readPairs 434 = .ok (.iload 9, 2) := by decide +kernel
theorem dX11_readPairs_436 : decode cX11_readPairs 436 = .ok (.goto 22, 3) := by decide +kernel
theorem dX11_readPairs_439 : decode cX11_readPairs 439 = .ok (.iload 8, 2) := by decide +kernel
theorem dX11_readPairs_441 : decode cX11_readPairs 441 = .ok (.iconst 2, 1) := by decide +kernel
theorem dX11_readPairs_442 : decode cX11_readPairs 442 = .ok (.irem, 1) := by decide +kernel
theorem dX11_readPairs_443 : decode cX11_readPairs 443 = .ok (.ifCond .ne 10, 3) := by decide +kernel
theorem dX11_readPairs_446 : decode cX11_readPairs 446 = .ok (.iload 9, 2) := by decide +kernel
theorem dX11_readPairs_448 : decode cX11_readPairs 448 = .ok (.iconst 4, 1) := by decide +kernel
theorem dX11_readPairs_449 : decode cX11_readPairs 449 = .ok (.ishr, 1) := by decide +kernel
theorem dX11_readPairs_450 : decode cX11_readPairs 450 = .ok (.goto 8, 3) := by decide +kernel
theorem dX11_readPairs_453 : decode cX11_readPairs 453 = .ok (.iload 9, 2) := by decide +kernel
theorem dX11_readPairs_455 : decode cX11_readPairs 455 = .ok (.bipush 15, 2) := by decide +kernel
theorem dX11_readPairs_457 : decode cX11_readPairs 457 = .ok (.iand, 1) := by decide +kernel
theorem dX11_readPairs_458 : decode cX11_readPairs 458 = .ok (.istore 10, 2) := by decide +kernel
theorem dX11_readPairs_460 : decode cX11_readPairs 460 = .ok (.iload 10, 2) := by decide +kernel
theorem dX11_readPairs_462 : decode cX11_readPairs 462 = .ok (.aload_n 0, 1) := by decide +kernel
theorem dX11_readPairs_463 : decode cX11_readPairs 463 = .ok (.getfield 136, 3) := by decide +kernel
theorem dX11_readPairs_466 : decode cX11_readPairs 466 = .ok (.if_icmp .lt 16, 3) := by decide +kernel
theorem dX11_readPairs_469 : decode cX11_readPairs 469 = .ok (.aload_n 0, 1) := by decide +kernel
theorem dX11_readPairs_470 : decode cX11_readPairs 470 = .ok (.bipush 6, 2) := by decide +kernel
theorem dX11_readPairs_472 : decode cX11_readPairs 472 = .ok (.aload_n 0, 1) := by decide +kernel
theorem dX11_readPairs_473 : decode cX11_readPairs 473 = .ok (.getfield 84, 3) := by decide +kernel
theorem dX11_readPairs_476 : decode cX11_readPairs 476 = .ok (.iconst 1, 1) := by decide +kernel
theorem dX11_readPairs_477 : decode cX11_readPairs 477 = .ok (.isub, 1) := by decide +kernel
theorem dX11_readPairs_478 : decode cX11_readPairs 478 = .ok (.invokevirtual 90, 3) := by decide +kernel
theorem dX11_readPairs_481 : decode cX11_readPairs 481 = .ok (.ireturn, 1) := by decide +kernel
theorem dX11_readPairs_482 : decode cX11_readPairs 482 = .ok (.aload_n 0, 1) := by decide +kernel
theorem dX11_readPairs_483 : decode cX11_readPairs 483 = .ok (.iload_n 1, 1) := by decide +kernel
theorem dX11_readPairs_484 : decode cX11_readPairs 484 = .ok (.iload_n 2, 1) := by decide +kernel
theorem dX11_readPairs_485 : decode cX11_readPairs 485 = .ok (.iload 10, 2) := by decide +kernel
theorem dX11_readPairs_487 : decode cX11_readPairs 487 = .ok (.invokevirtual 204, 3) := by decide +kernel
theorem dX11_readPairs_490 : decode cX11_readPairs 490 = .ok (.iinc 1 1, 3) := by decide +kernel
theorem dX11_readPairs_493 : decode cX11_readPairs 493 = .ok (.iinc 8 1, 3) := by decide +kernel
theorem dX11_readPairs_496 : decode cX11_readPairs 496 = .ok (.goto (-124), 3) := by decide +kernel
theorem dX11_readPairs_499 : decode cX11_readPairs 499 = .ok (.iload 7, 2) := by decide +kernel
theorem dX11_readPairs_501 : decode cX11_readPairs 501 = .ok (.iconst 2, 1) := by decide +kernel
theorem dX11_readPairs_502 : decode cX11_readPairs 502 = .ok (.irem, 1) := by decide +kernel
theorem dX11_readPairs_503 : decode cX11_readPairs 503 = .ok (.iconst 1, 1) := by decide +kernel
theorem dX11_readPairs_504 : decode cX11_readPairs 504 = .ok (.if_icmp .ne 23, 3) := by decide +kernel
theorem dX11_readPairs_507 : decode cX11_readPairs 507 = .ok (.aload_n 0, 1) := by decide +kernel
theorem dX11_readPairs_508 : decode cX11_readPairs 508 = .ok (.iconst 1, 1) := by decide +kernel
theorem dX11_readPairs_509 : decode cX11_readPairs 509 = .ok (.invokevirtual 103, 3) := by decide +kernel
theorem dX11_readPairs_512 : decode cX11_readPairs 512 = .ok (.ifCond .ne 5, 3) := by decide +kernel
theorem dX11_readPairs_515 : decode cX11_readPairs 515 = .ok (.iconst 0, 1) := by decide +kernel
theorem dX11_readPairs_516 : decode cX11_readPairs 516 = .ok (.ireturn, 1) := by decide +kernel
theorem dX11_readPairs_517 : decode cX11_readPairs 517 = .ok (.aload_n 0, 1) := by decide +kernel
theorem dX11_readPairs_518 : decode cX11_readPairs 518 = .ok (.dup, 1) := by decide +kernel
theorem dX11_readPairs_519 : decode cX11_readPairs 519 = .ok (.getfield 84, 3) := by decide +kernel
theorem dX11_readPairs_522 : decode cX11_readPairs 522 = .ok (.iconst 1, 1) := by decide +kernel
theorem dX11_readPairs_523 : decode cX11_readPairs 523 = .ok (.iadd, 1) := by decide +kernel
theorem dX11_readPairs_524 : decode cX11_readPairs 524 = .ok (.putfield 84, 3) := by decide +kernel
theorem dX11_readPairs_527 : decode cX11_readPairs 527 = .ok (.goto (-488), 3) := by decide +kernel
theorem dX11_readPairs_530 : decode cX11_readPairs 530 = .ok (.aload_n 0, 1) := by decide +kernel
theorem dX11_readPairs_531 : decode cX11_readPairs 531 = .ok (.invokevirtual 145, 3) := by decide +kernel
theorem dX11_readPairs_534 : decode cX11_readPairs 534 = .ok (.ireturn, 1) := by decide +kernel
theorem dX11_put_0 : decode cX11_put 0 = .ok (.aload_n 0, 1) := by decide +kernel
theorem dX11_put_1 : decode cX11_put 1 = .ok (.getfield 27, 3) := by decide +kernel
theorem dX11_put_4 : decode cX11_put 4 = .ok (.aload_n 0, 1) := by decide +kernel
theorem dX11_put_5 : decode cX11_put 5 = .ok (.getfield 109, 3) := by decide +kernel
theorem dX11_put_8 : decode cX11_put 8 = .ok (.aload_n 0, 1) := by decide +kernel
theorem dX11_put_9 : decode cX11_put 9 = .ok (.getfield 112, 3) := by decide +kernel
theorem dX11_put_12 : decode cX11_put 12 = .ok (.iconst 1, 1) := by decide +kernel
theorem dX11_put_13 : decode cX11_put 13 = .ok (.isub, 1) := by decide +kernel
theorem dX11_put_14 : decode cX11_put 14 = .ok (.iload_n 2, 1) := by decide +kernel
theorem dX11_put_15 : decode cX11_put 15 = .ok (.isub, 1) := by decide +kernel
theorem dX11_put_16 : decode cX11_put 16 = .ok (.imul, 1) := by decide +kernel
theorem dX11_put_17 : decode cX11_put 17 = .ok (.iload_n 1, 1) := by decide +kernel
theorem dX11_put_18 : decode cX11_put 18 = .ok (.iadd, 1) := by decide +kernel
theorem dX11_put_19 : decode cX11_put 19 = .ok (.aload_n 0, 1) := by decide +kernel
theorem dX11_put_20 : decode cX11_put 20 = .ok (.getfield 49, 3) := by decide +kernel
theorem dX11_put_23 : decode cX11_put 23 = .ok (.iload_n 3, 1) := by decide +kernel
theorem dX11_put_24 : decode cX11_put 24 = .ok (.iaload, 1) := by decide +kernel
theorem dX11_put_25 : decode cX11_put 25 = .ok (.iastore, 1) := by decide +kernel
theorem dX11_put_26 : decode cX11_put 26 = .ok (.return_, 1) := by decide +kernel
theorem dX11_readShort_0 : decode cX11_readShort 0 = .ok (.aload_n 0, 1) := by decide +kernel
theorem dX11_readShort_1 : decode cX11_readShort 1 = .ok (.iconst 2, 1) := by decide +kernel
theorem dX11_readShort_2 : decode cX11_readShort 2 = .ok (.invokevirtual 103, 3) := by decide +kernel
theorem dX11_readShort_5 : decode cX11_readShort 5 = .ok (.ireturn, 1) := by decide +kernel
theorem dX11_readTarga_0 : decode cX11_readTarga 0 = .ok (.aload_n 0, 1) := by decide +kernel
theorem dX11_readTarga_1 : decode cX11_readTarga 1 = .ok (.iconst 1, 1) := by decide +kernel
theorem dX11_readTarga_2 : decode cX11_readTarga 2 = .ok (.invokevirtual 103, 3) := by decide +kernel
theorem dX11_readTarga_5 : decode cX11_readTarga 5 = .ok (.ifCond .ne 5, 3) := by decide +kernel
theorem dX11_readTarga_8 : decode cX11_readTarga 8 = .ok (.iconst 0, 1) := by decide +kernel
theorem dX11_readTarga_9 : decode cX11_readTarga 9 = .ok (.ireturn, 1) := by decide +kernel
theorem dX11_readTarga_10 : decode cX11_readTarga 10 = .ok (.aload_n 0, 1) := by decide +kernel
theorem dX11_readTarga_11 : decode cX11_readTarga 11 = .ok (.iconst 0, 1) := by decide +kernel
theorem dX11_readTarga_12 : decode cX11_readTarga 12 = .ok (.invokevirtual 99, 3) := by decide +kernel
theorem dX11_readTarga_15 : decode cX11_readTarga 15 = .ok (.istore_n 1, 1) := by decide +kernel
theorem dX11_readTarga_16 : decode cX11_readTarga 16 = .ok (.aload_n 0, 1) := by decide +kernel
theorem dX11_readTarga_17 : decode cX11_readTarga 17 = .ok (.iconst 1, 1) := by decide +kernel
theorem dX11_readTarga_18 : decode cX11_readTarga 18 = .ok (.putfield 84, 3) := by decide +kernel
theorem dX11_readTarga_21 : decode cX11_readTarga 21 = .ok (.aload_n 0, 1) := by decide +kernel
theorem dX11_readTarga_22 : decode cX11_readTarga 22 = .ok (.iconst 1, 1) := by decide +kernel
theorem dX11_readTarga_23 : decode cX11_readTarga 23 = .ok (.invokevirtual 103, 3) := by decide +kernel
theorem dX11_readTarga_26 : decode cX11_readTarga 26 = .ok (.ifCond .ne 5, 3) := by decide +kernel
theorem dX11_readTarga_29 : decode cX11_readTarga 29 = .ok (.iconst 0, 1) := by decide +kernel
theorem dX11_readTarga_30 : decode cX11_readTarga 30 = .ok (.ireturn, 1) := by decide +kernel
theorem dX11_readTarga_31 : decode cX11_readTarga 31 = .ok (.aload_n 0, 1) := by decide +kernel
theorem dX11_readTarga_32 : decode cX11_readTarga 32 = .ok (.iconst 1, 1) := by decide +kernel
theorem dX11_readTarga_33 : decode cX11_readTarga 33 = .ok (.invokevirtual 99, 3) := by decide +kernel
theorem dX11_readTarga_36 : decode cX11_readTarga 36 = .ok (.istore_n 2, 1) := by decide +kernel
theorem dX11_readTarga_37 : decode cX11_readTarga 37 = .ok (.iload_n 2, 1) := by decide +kernel
theorem dX11_readTarga_38 : decode cX11_readTarga 38 = .ok (.iconst 1, 1) := by decide +kernel
theorem dX11_readTarga_39 : decode cX11_readTarga 39 = .ok (.if_icmp .le 10, 3) := by decide +kernel
theorem dX11_readTarga_42 : decode cX11_readTarga 42 = .ok (.aload_n 0, 1) := by decide +kernel
theorem dX11_readTarga_43 : decode cX11_readTarga 43 = .ok (.iconst 2, 1) := by decide +kernel
theorem dX11_readTarga_44 : decode cX11_readTarga 44 = .ok (.iconst 1, 1) := by decide +kernel
theorem dX11_readTarga_45 : decode cX11_readTarga 45 = .ok (.invokevirtual 90, 3) := by decide +kernel
theorem dX11_readTarga_48 : decode cX11_readTarga 48 = .ok (.ireturn, 1) := by decide +kernel
theorem dX11_readTarga_49 : decode cX11_readTarga 49 = .ok (.aload_n 0, 1) := by decide +kernel
theorem dX11_readTarga_50 : decode cX11_readTarga 50 = .ok (.iconst 2, 1) := by decide +kernel
theorem dX11_readTarga_51 : decode cX11_readTarga 51 = .ok (.putfield 84, 3) := by decide +kernel
theorem dX11_readTarga_54 : decode cX11_readTarga 54 = .ok (.aload_n 0, 1) := by decide +kernel
theorem dX11_readTarga_55 : decode cX11_readTarga 55 = .ok (.iconst 1, 1) := by decide +kernel
theorem dX11_readTarga_56 : decode cX11_readTarga 56 = .ok (.invokevirtual 103, 3) := by decide +kernel
theorem dX11_readTarga_59 : decode cX11_readTarga 59 = .ok (.ifCond .ne 5, 3) := by decide +kernel
theorem dX11_readTarga_62 : decode cX11_readTarga 62 = .ok (.iconst 0, 1) := by decide +kernel
theorem dX11_readTarga_63 : decode cX11_readTarga 63 = .ok (.ireturn, 1) := by decide +kernel
theorem dX11_readTarga_64 : decode cX11_readTarga 64 = .ok (.aload_n 0, 1) := by decide +kernel
theorem dX11_readTarga_65 : decode cX11_readTarga 65 = .ok (.iconst 2, 1) := by decide +kernel
theorem dX11_readTarga_66 : decode cX11_readTarga 66 = .ok (.invokevirtual 99, 3) := by decide +kernel
theorem dX11_readTarga_69 : decode cX11_readTarga 69 = .ok (.istore_n 3, 1) := by decide +kernel
theorem dX11_readTarga_70 : decode cX11_readTarga 70 = .ok (.iload_n 3, 1) := by decide +kernel
theorem dX11_readTarga_71 : decode cX11_readTarga 71 = .ok (.iconst 1, 1) := by decide +kernel
theorem dX11_readTarga_72 : decode cX11_readTarga 72 = .ok (.if_icmp .eq 9, 3) := by decide +kernel
theorem dX11_readTarga_75 : decode cX11_readTarga 75 = .ok (.iload_n 3, 1) := by decide +kernel
theorem dX11_readTarga_76 : decode cX11_readTarga 76 = .ok (.bipush 9, 2) := by decide +kernel
theorem dX11_readTarga_78 : decode cX11_readTarga 78 = .ok (.if_icmp .ne 7, 3) := by decide +kernel
theorem dX11_readTarga_81 : decode cX11_readTarga 81 = .ok (.iconst 1, 1) := by decide +kernel
theorem dX11_readTarga_82 : decode cX11_readTarga 82 = .ok (.goto 4, 3) := by decide +kernel
theorem dX11_readTarga_85 : decode cX11_readTarga 85 = .ok (.iconst 0, 1) := by decide +kernel
theorem dX11_readTarga_86 : decode cX11_readTarga 86 = .ok (.istore 4, 2) := by decide +kernel
theorem dX11_readTarga_88 : decode cX11_readTarga 88 = .ok (.iload_n 3, 1) := by decide +kernel
theorem dX11_readTarga_89 : decode cX11_readTarga 89 = .ok (.iconst 3, 1) := by decide +kernel
theorem dX11_readTarga_90 : decode cX11_readTarga 90 = .ok (.if_icmp .eq 9, 3) := by decide +kernel
theorem dX11_readTarga_93 : decode cX11_readTarga 93 = .ok (.iload_n 3, 1) := by decide +kernel
theorem dX11_readTarga_94 : decode cX11_readTarga 94 = .ok (.bipush 11, 2) := by decide +kernel
theorem dX11_readTarga_96 : decode cX11_readTarga 96 = .ok (.if_icmp .ne 7, 3) := by decide +kernel
theorem dX11_readTarga_99 : decode cX11_readTarga 99 = .ok (.iconst 1, 1) := by decide +kernel
theorem dX11_readTarga_100 : decode cX11_readTarga 100 = .ok (.goto 4, 3) := by decide +kernel
theorem dX11_readTarga_103 : decode cX11_readTarga 103 = .ok (.iconst 0, 1) := by decide +kernel
theorem dX11_readTarga_104 : decode cX11_readTarga 104 = .ok (.istore 5, 2) := by decide +kernel
theorem dX11_readTarga_106 : decode cX11_readTarga 106 = .ok (.iload 4, 2) := by decide +kernel
theorem dX11_readTarga_108 : decode cX11_readTarga 108 = .ok (.ifCond .ne 19, 3) := by decide +kernel
theorem dX11_readTarga_111 : decode cX11_readTarga 111 = .ok (.iload 5, 2) := by decide +kernel
theorem dX11_readTarga_113 : decode cX11_readTarga 113 = .ok (.ifCond .ne 14, 3) := by decide +kernel
theorem dX11_readTarga_116 : decode cX11_readTarga 116 = .ok (.iload_n 3, 1) := by decide +kernel
theorem dX11_readTarga_117 : decode cX11_readTarga 117 = .ok (.iconst 2, 1) := by decide +kernel
theorem dX11_readTarga_118 : decode cX11_readTarga 118 = .ok (.if_icmp .eq 9, 3) := by decide +kernel
theorem dX11_readTarga_121 : decode cX11_readTarga 121 = .ok (.iload_n 3, 1) := by decide +kernel
theorem dX11_readTarga_122 : decode cX11_readTarga 122 = .ok (.bipush 10, 2) := by decide +kernel
theorem dX11_readTarga_124 : decode cX11_readTarga 124 = .ok (.if_icmp .ne 12, 3) := by decide +kernel
theorem dX11_readTarga_127 : decode cX11_readTarga 127 = .ok (.iload 4, 2) := by decide +kernel
theorem dX11_readTarga_129 : decode cX11_readTarga 129 = .ok (.ifCond .eq 14, 3) := by decide +kernel
theorem dX11_readTarga_132 : decode cX11_readTarga 132 = .ok (.iload_n 2, 1) := by decide +kernel
theorem dX11_readTarga_133 : decode cX11_readTarga 133 = .ok (.ifCond .ne 10, 3) := by decide +kernel
theorem dX11_readTarga_136 : decode cX11_readTarga 136 = .ok (.aload_n 0, 1) := by decide +kernel
theorem dX11_readTarga_137 : decode cX11_readTarga 137 = .ok (.iconst 2, 1) := by decide +kernel
theorem dX11_readTarga_138 : decode cX11_readTarga 138 = .ok (.iconst 2, 1) := by decide +kernel
theorem dX11_readTarga_139 : decode cX11_readTarga 139 = .ok (.invokevirtual 90, 3) := by decide +kernel
theorem dX11_readTarga_142 : decode cX11_readTarga 142 = .ok (.ireturn, 1) := by decide +kernel
theorem dX11_readTarga_143 : decode cX11_readTarga 143 = .ok (.aload_n 0, 1) := by decide +kernel
theorem dX11_readTarga_144 : decode cX11_readTarga 144 = .ok (.iconst 3, 1) := by decide +kernel
theorem dX11_readTarga_145 : decode cX11_readTarga 145 = .ok (.putfield 84, 3) := by decide +kernel
theorem dX11_readTarga_148 : decode cX11_readTarga 148 = .ok (.aload_n 0, 1) := by decide +kernel
theorem dX11_readTarga_149 : decode cX11_readTarga 149 = .ok (.invokevirtual 208, 3) := by decide +kernel
theorem dX11_readTarga_152 : decode cX11_readTarga 152 = .ok (.ifCond .ne 5, 3) := by decide +kernel
theorem dX11_readTarga_155 : decode cX11_readTarga 155 = .ok (.iconst 0, 1) := by decide +kernel
theorem dX11_readTarga_156 : decode cX11_readTarga 156 = .ok (.ireturn, 1) := by decide +kernel
theorem dX11_readTarga_157 : decode cX11_readTarga 157 = .ok (.aload_n 0, 1) := by decide +kernel
theorem dX11_readTarga_158 : decode cX11_readTarga 158 = .ok (.iconst 3, 1) := by decide +kernel
theorem dX11_readTarga_159 : decode cX11_readTarga 159 = .ok (.iconst 2, 1) := by decide +kernel
theorem dX11_readTarga_160 : decode cX11_readTarga 160 = .ok (.invokevirtual 183, 3) := by decide +kernel
theorem dX11_readTarga_163 : decode cX11_readTarga 163 = .ok (.l2i, 1) := by decide +kernel
theorem dX11_readTarga_164 : decode cX11_readTarga 164 = .ok (.istore 6, 2) := by decide +kernel
theorem dX11_readTarga_166 : decode cX11_readTarga 166 = .ok (.iload_n 2, 1) := by decide +kernel
theorem dX11_readTarga_167 : decode cX11_readTarga 167 = .ok (.ifCond .ne 15, 3) := by decide +kernel
theorem dX11_readTarga_170 : decode cX11_readTarga 170 = .ok (.iload 6, 2) := by decide +kernel
theorem dX11_readTarga_172 : decode cX11_readTarga 172 = .ok (.ifCond .eq 10, 3) := by decide +kernel
theorem dX11_readTarga_175 : decode cX11_readTarga 175 = .ok (.aload_n 0, 1) := by decide +kernel
theorem dX11_readTarga_176 : decode cX11_readTarga 176 = .ok (.iconst 2, 1) := by decide +kernel
theorem dX11_readTarga_177 : decode cX11_readTarga 177 = .ok (.iconst 3, 1) := by decide +kernel
theorem dX11_readTarga_178 : decode cX11_readTarga 178 = .ok (.invokevirtual 90, 3) := by decide +kernel
theorem dX11_readTarga_181 : decode cX11_readTarga 181 = .ok (.ireturn, 1) := by decide +kernel
theorem dX11_readTarga_182 : decode cX11_readTarga 182 = .ok (.aload_n 0, 1) := by decide +kernel
theorem dX11_readTarga_183 : decode cX11_readTarga 183 = .ok (.iconst 5, 1) := by decide +kernel
theorem dX11_readTarga_184 : decode cX11_readTarga 184 = .ok (.putfield 84, 3) := by decide +kernel
theorem dX11_readTarga_187 : decode cX11_readTarga 187 = .ok (.aload_n 0, 1) := by decide +kernel
theorem dX11_readTarga_188 : decode cX11_readTarga 188 = .ok (.invokevirtual 208, 3) := by decide +kernel
theorem dX11_readTarga_191 : decode cX11_readTarga 191 = .ok (.ifCond .ne 5, 3) := by decide +kernel
theorem dX11_readTarga_194 : decode cX11_readTarga 194 = .ok (.iconst 0, 1) := by decide +kernel
theorem dX11_readTarga_195 : decode cX11_readTarga 195 = .ok (.ireturn, 1) := by decide +kernel
theorem dX11_readTarga_196 : decode cX11_readTarga 196 = .ok (.aload_n 0, 1) := by decide +kernel
theorem dX11_readTarga_197 : decode cX11_readTarga 197 = .ok (.iconst 5, 1) := by decide +kernel
theorem dX11_readTarga_198 : decode cX11_readTarga 198 = .ok (.iconst 2, 1) := by decide +kernel
theorem dX11_readTarga_199 : decode cX11_readTarga 199 = .ok (.invokevirtual 183, 3) := by decide +kernel
theorem dX11_readTarga_202 : decode cX11_readTarga 202 = .ok (.l2i, 1) := by decide +kernel
theorem dX11_readTarga_203 : decode cX11_readTarga 203 = .ok (.istore 7, 2) := by decide +kernel
theorem dX11_readTarga_205 : decode cX11_readTarga 205 = .ok (.iload_n 2, 1) := by decide +kernel
theorem dX11_readTarga_206 : decode cX11_readTarga 206 = .ok (.ifCond .ne 11, 3) := by decide +kernel
theorem dX11_readTarga_209 : decode cX11_readTarga 209 = .ok (.iload 7, 2) := by decide +kernel
theorem dX11_readTarga_211 : decode cX11_readTarga 211 = .ok (.ifCond .eq 18, 3) := by decide +kernel
theorem dX11_readTarga_214 : decode cX11_readTarga 214 = .ok (.goto 8, 3) := by decide +kernel
theorem dX11_readTarga_217 : decode cX11_readTarga 217 = .ok (.iload 7, 2) := by decide +kernel
theorem dX11_readTarga_219 : decode cX11_readTarga 219 = .ok (.ifCond .ne 10, 3) := by decide +kernel
theorem dX11_readTarga_222 : decode cX11_readTarga 222 = .ok (.aload_n 0, 1) := by decide +kernel
theorem dX11_readTarga_223 : decode cX11_readTarga 223 = .ok (.iconst 2, 1) := by decide +kernel
theorem dX11_readTarga_224 : decode cX11_readTarga 224 = .ok (.iconst 5, 1) := by decide +kernel
theorem dX11_readTarga_225 : decode cX11_readTarga 225 = .ok (.invokevirtual 90, 3) := by decide +kernel
theorem dX11_readTarga_228 : decode cX11_readTarga 228 = .ok (.ireturn, 1) := by decide +kernel
theorem dX11_readTarga_229 : decode cX11_readTarga 229 = .ok (.aload_n 0, 1) := by decide +kernel
theorem dX11_readTarga_230 : decode cX11_readTarga 230 = .ok (.bipush 7, 2) := by decide +kernel
theorem dX11_readTarga_232 : decode cX11_readTarga 232 = .ok (.putfield 84, 3) := by decide +kernel
theorem dX11_readTarga_235 : decode cX11_readTarga 235 = .ok (.aload_n 0, 1) := by decide +kernel
theorem dX11_readTarga_236 : decode cX11_readTarga 236 = .ok (.iconst 1, 1) := by decide +kernel
theorem dX11_readTarga_237 : decode cX11_readTarga 237 = .ok (.invokevirtual 103, 3) := by decide +kernel
theorem dX11_readTarga_240 : decode cX11_readTarga 240 = .ok (.ifCond .ne 5, 3) := by decide +kernel
theorem dX11_readTarga_243 : decode cX11_readTarga 243 = .ok (.iconst 0, 1) := by decide +kernel
theorem dX11_readTarga_244 : decode cX11_readTarga 244 = .ok (.ireturn, 1) := by decide +kernel
theorem dX11_readTarga_245 : decode cX11_readTarga 245 = .ok (.aload_n 0, 1) := by decide +kernel
theorem dX11_readTarga_246 : decode cX11_readTarga 246 = .ok (.bipush 7, 2) := by decide +kernel
theorem dX11_readTarga_248 : decode cX11_readTarga 248 = .ok (.invokevirtual 99, 3) := by decide +kernel
theorem dX11_readTarga_251 : decode cX11_readTarga 251 = .ok (.istore 8, 2) := by decide +kernel
theorem dX11_readTarga_253 : decode cX11_readTarga 253 = .ok (.iload_n 2, 1) := by decide +kernel
theorem dX11_readTarga_254 : decode cX11_readTarga 254 = .ok (.ifCond .ne 11, 3) := by decide +kernel
theorem dX11_readTarga_257 : decode cX11_readTarga 257 = .ok (.iload 8, 2) := by decide +kernel
theorem dX11_readTarga_259 : decode cX11_readTarga 259 = .ok (.ifCond .eq 42, 3) := by decide +kernel
theorem dX11_readTarga_262 : decode cX11_readTarga 262 = .ok (.goto 31, 3) := by decide +kernel
theorem dX11_readTarga_265 : decode cX11_readTarga 265 = .ok (.iload 8, 2) := by decide +kernel
theorem dX11_readTarga_267 : decode cX11_readTarga 267 = .ok (.bipush 15, 2) := by decide +kernel
theorem dX11_readTarga_269 : decode cX11_readTarga 269 = .ok (.if_icmp .eq 32, 3) := by decide +kernel
theorem dX11_readTarga_272 : decode cX11_readTarga 272 = .ok (.iload 8, 2) := by decide +kernel
theorem dX11_readTarga_274 : decode cX11_readTarga 274 = .ok (.bipush 16, 2) := by decide +kernel
theorem dX11_readTarga_276 : decode cX11_readTarga 276 = .ok (.if_icmp .eq 25, 3) := by decide +kernel
theorem dX11_readTarga_279 : decode cX11_readTarga 279 = .ok (.iload 8, 2) := by decide +kernel
theorem dX11_readTarga_281 : decode cX11_readTarga 281 = .ok (.bipush 24, 2) := by decide +kernel
theorem dX11_readTarga_283 : decode cX11_readTarga 283 = .ok (.if_icmp .eq 18, 3) := by decide +kernel
theorem dX11_readTarga_286 : decode cX11_readTarga 286 = .ok (.iload 8, 2) := by decide +kernel
theorem dX11_readTarga_288 : decode cX11_readTarga 288 = .ok (.bipush 32, 2) := by decide +kernel
theorem dX11_readTarga_290 : decode cX11_readTarga 290 = .ok (.if_icmp .eq 11, 3) := by decide +kernel
theorem dX11_readTarga_293 : decode cX11_readTarga 293 = .ok (.aload_n 0, 1) := by decide +kernel
theorem dX11_readTarga_294 : decode cX11_readTarga 294 = .ok (.iconst 2, 1) := by decide +kernel
theorem dX11_readTarga_295 : decode cX11_readTarga 295 = .ok (.bipush 7, 2) := by decide +kernel
theorem dX11_readTarga_297 : decode cX11_readTarga 297 = .ok (.invokevirtual 90, 3) := by decide +kernel
theorem dX11_readTarga_300 : decode cX11_readTarga 300 = .ok (.ireturn, 1) := by decide +kernel
theorem dX11_readTarga_301 : decode cX11_readTarga 301 = .ok (.aload_n 0, 1) := by decide +kernel
theorem dX11_readTarga_302 : decode cX11_readTarga 302 = .ok (.bipush 8, 2) := by decide +kernel
theorem dX11_readTarga_304 : decode cX11_readTarga 304 = .ok (.putfield 84, 3) := by decide +kernel
theorem dX11_readTarga_307 : decode cX11_readTarga 307 = .ok (.aload_n 0, 1) := by decide +kernel
theorem dX11_readTarga_308 : decode cX11_readTarga 308 = .ok (.getfield 84, 3) := by decide +kernel
theorem dX11_readTarga_311 : decode cX11_readTarga 311 = .ok (.bipush 12, 2) := by decide +kernel
theorem dX11_readTarga_313 : decode cX11_readTarga 313 = .ok (.if_icmp .ge 25, 3) := by decide +kernel
theorem dX11_readTarga_316 : decode cX11_readTarga 316 = .ok (.aload_n 0, 1) := by decide +kernel
theorem dX11_readTarga_317 : decode cX11_readTarga 317 = .ok (.invokevirtual 208, 3) := by decide +kernel
theorem dX11_readTarga_320 : decode cX11_readTarga 320 = .ok (.ifCond .ne 5, 3) := by decide +kernel
theorem dX11_readTarga_323 : decode cX11_readTarga 323 = .ok (.iconst 0, 1) := by decide +kernel
theorem dX11_readTarga_324 : decode cX11_readTarga 324 = .ok (.ireturn, 1) := by decide +kernel
theorem dX11_readTarga_325 : decode cX11_readTarga 325 = .ok (.aload_n 0, 1) := by decide +kernel
theorem dX11_readTarga_326 : decode cX11_readTarga 326 = .ok (.dup, 1) := by decide +kernel
theorem dX11_readTarga_327 : decode cX11_readTarga 327 = .ok (.getfield 84, 3) := by decide +kernel
theorem dX11_readTarga_330 : decode cX11_readTarga 330 = .ok (.iconst 2, 1) := by decide +kernel
theorem dX11_readTarga_331 : decode cX11_readTarga 331 = .ok (.iadd, 1) := by decide +kernel
theorem dX11_readTarga_332 : decode cX11_readTarga 332 = .ok (.putfield 84, 3) := by decide +kernel
theorem dX11_readTarga_335 : decode cX11_readTarga 335 = .ok (.goto (-28), 3) := by decide +kernel
theorem dX11_readTarga_338 : decode cX11_readTarga 338 = .ok (.aload_n 0, 1) := by decide +kernel
theorem dX11_readTarga_339 : decode cX11_readTarga 339 = .ok (.invokevirtual 208, 3) := by decide +kernel
theorem dX11_readTarga_342 : decode cX11_readTarga 342 = .ok (.ifCond .ne 5, 3) := by decide +kernel
theorem dX11_readTarga_345 : decode cX11_readTarga 345 = .ok (.iconst 0, 1) := by decide +kernel
theorem dX11_readTarga_346 : decode cX11_readTarga 346 = .ok (.ireturn, 1) := by decide +kernel
theorem dX11_readTarga_347 : decode cX11_readTarga 347 = .ok (.aload_n 0, 1) := by decide +kernel
theorem dX11_readTarga_348 : decode cX11_readTarga 348 = .ok (.bipush 12, 2) := by decide +kernel
theorem dX11_readTarga_350 : decode cX11_readTarga 350 = .ok (.iconst 2, 1) := by decide +kernel
theorem dX11_readTarga_351 : decode cX11_readTarga 351 = .ok (.invokevirtual 183, 3) := by decide +kernel
theorem dX11_readTarga_354 : decode cX11_readTarga 354 = .ok (.l2i, 1) := by decide +kernel
theorem dX11_readTarga_355 : decode cX11_readTarga 355 = .ok (.istore 9, 2) := by decide +kernel
theorem dX11_readTarga_357 : decode cX11_readTarga 357 = .ok (.iload 9, 2) := by decide +kernel
theorem dX11_readTarga_359 : decode cX11_readTarga 359 = .ok (.ifCond .ne 11, 3) := by decide +kernel
theorem dX11_readTarga_362 : decode cX11_readTarga 362 = .ok (.aload_n 0, 1) := by decide +kernel
theorem dX11_readTarga_363 : decode cX11_readTarga 363 = .ok (.iconst 2, 1) := by decide +kernel
theorem dX11_readTarga_364 : decode cX11_readTarga 364 = .ok (.bipush 12, 2) := by decide +kernel
theorem dX11_readTarga_366 : decode cX11_readTarga 366 = .ok (.invokevirtual 90, 3) := by decide +kernel
theorem dX11_readTarga_369 : decode cX11_readTarga 369 = .ok (.ireturn, 1) := by decide +kernel
theorem dX11_readTarga_370 : decode cX11_readTarga 370 = .ok (.aload_n 0, 1) := by decide +kernel
theorem dX11_readTarga_371 : decode cX11_readTarga 371 = .ok (.bipush 14, 2) := by decide +kernel
theorem dX11_readTarga_373 : decode cX11_readTarga 373 = .ok (.putfield 84, 3) := by decide +kernel
theorem dX11_readTarga_376 : decode cX11_readTarga 376 = .ok (.aload_n 0, 1) := by decide +kernel
theorem dX11_readTarga_377 : decode cX11_readTarga 377 = .ok (.invokevirtual 208, 3) := by decide +kernel
theorem dX11_readTarga_380 : decode cX11_readTarga 380 = .ok (.ifCond .ne 5, 3) := by decide +kernel
theorem dX11_readTarga_383 : decode cX11_readTarga 383 = .ok (.iconst 0, 1) := by decide +kernel
theorem dX11_readTarga_384 : decode cX11_readTarga 384 = .ok (.ireturn, 1) := by decide +kernel
theorem dX11_readTarga_385 : decode cX11_readTarga 385 = .ok (.aload_n 0, 1) := by decide +kernel
theorem dX11_readTarga_386 : decode cX11_readTarga 386 = .ok (.bipush 14, 2) := by decide +kernel
theorem dX11_readTarga_388 : decode cX11_readTarga 388 = .ok (.iconst 2, 1) := by decide +kernel
theorem dX11_readTarga_389 : decode cX11_readTarga 389 = .ok (.invokevirtual 183, 3) := by decide +kernel
theorem dX11_readTarga_392 : decode cX11_readTarga 392 = .ok (.l2i, 1) := by decide +kernel
theorem dX11_readTarga_393 : decode cX11_readTarga 393 = .ok (.istore 10, 2) := by decide +kernel
theorem dX11_readTarga_395 : decode cX11_readTarga 395 = .ok (.iload 10, 2) := by decide +kernel
theorem dX11_readTarga_397 : decode cX11_readTarga 397 = .ok (.ifCond .ne 11, 3) := by decide +kernel
theorem dX11_readTarga_400 : decode cX11_readTarga 400 = .ok (.aload_n 0, 1) := by decide +kernel
theorem dX11_readTarga_401 : decode cX11_readTarga 401 = .ok (.iconst 2, 1) := by decide +kernel
theorem dX11_readTarga_402 : decode cX11_readTarga 402 = .ok (.bipush 14, 2) := by decide +kernel
theorem dX11_readTarga_404 : decode cX11_readTarga 404 = .ok (.invokevirtual 90, 3) := by decide +kernel
theorem dX11_readTarga_407 : decode cX11_readTarga 407 = .ok (.ireturn, 1) := by decide +kernel
theorem dX11_readTarga_408 : decode cX11_readTarga 408 = .ok (.aload_n 0, 1) := by decide +kernel
theorem dX11_readTarga_409 : decode cX11_readTarga 409 = .ok (.iload 9, 2) := by decide +kernel
theorem dX11_readTarga_411 : decode cX11_readTarga 411 = .ok (.i2l, 1) := by decide +kernel
theorem dX11_readTarga_412 : decode cX11_readTarga 412 = .ok (.iload 10, 2) := by decide +kernel
theorem dX11_readTarga_414 : decode cX11_readTarga 414 = .ok (.i2l, 1) := by decide +kernel
theorem dX11_readTarga_415 : decode cX11_readTarga 415 = .ok (.bipush 14, 2) := by decide +kernel
theorem dX11_readTarga_417 : decode cX11_readTarga 417 = .ok (.invokevirtual 126, 3) := by decide +kernel
theorem dX11_readTarga_420 : decode cX11_readTarga 420 = .ok (.ifCond .ne 5, 3) := by decide +kernel
theorem dX11_readTarga_423 : decode cX11_readTarga 423 = .ok (.iconst 0, 1) := by decide +kernel
theorem dX11_readTarga_424 : decode cX11_readTarga 424 = .ok (.ireturn, 1) := by decide +kernel
theorem dX11_readTarga_425 : decode cX11_readTarga 425 = .ok (.aload_n 0, 1) := by decide +kernel
theorem dX11_readTarga_426 : decode cX11_readTarga 426 = .ok (.bipush 16, 2) := by decide +kernel
theorem dX11_readTarga_428 : decode cX11_readTarga 428 = .ok (.putfield 84, 3) := by decide +kernel
theorem dX11_readTarga_431 : decode cX11_readTarga 431 = .ok (.aload_n 0, 1) := by decide +kernel
theorem dX11_readTarga_432 : decode cX11_readTarga 432 = .ok (.iconst 1, 1) := by decide +kernel
theorem dX11_readTarga_433 : decode cX11_readTarga 433 = .ok (.invokevirtual 103, 3) := by decide +kernel
theorem dX11_readTarga_436 : decode cX11_readTarga 436 = .ok (.ifCond .ne 5, 3) := by decide +kernel
theorem dX11_readTarga_439 : decode cX11_readTarga 439 = .ok (.iconst 0, 1) := by decide +kernel
theorem dX11_readTarga_440 : decode cX11_readTarga 440 = .ok (.ireturn, 1) := by decide +kernel
theorem dX11_readTarga_441 : decode cX11_readTarga 441 = .ok (.aload_n 0, 1) := by decide +kernel
theorem dX11_readTarga_442 : decode cX11_readTarga 442 = .ok (.bipush 16, 2) := by decide +kernel
theorem dX11_readTarga_444 : decode cX11_readTarga 444 = .ok (.invokevirtual 99, 3) := by decide +kernel
theorem dX11_readTarga_447 : decode cX11_readTarga 447 = .ok (.istore 11, 2) := by decide +kernel
theorem dX11_readTarga_449 : decode cX11_readTarga 449 = .ok (.iload 4, 2) := by decide +kernel
theorem dX11_readTarga_451 : decode cX11_readTarga 451 = .ok (.ifCond .ne 8, 3) := by decide +kernel
theorem dX11_readTarga_454 : decode cX11_readTarga 454 = .ok (.iload 5, 2) := by decide +kernel
theorem dX11_readTarga_456 : decode cX11_readTarga 456 = .ok (.ifCond .eq 13, 3) := by decide +kernel
theorem dX11_readTarga_459 : decode cX11_readTarga 459 = .ok (.iload 11, 2) := by decide +kernel
theorem dX11_readTarga_461 : decode cX11_readTarga 461 = .ok (.bipush 8, 2) := by decide +kernel
theorem dX11_readTarga_463 : decode cX11_readTarga 463 = .ok (.if_icmp .eq 35, 3) := by decide +kernel
theorem dX11_readTarga_466 : decode cX11_readTarga 466 = .ok (.goto 24, 3) := by decide +kernel
theorem dX11_readTarga_469 : decode cX11_readTarga 469 = .ok (.iload 11, 2) := by decide +kernel
theorem dX11_readTarga_471 : decode cX11_readTarga 471 = .ok (.bipush 16, 2) := by decide +kernel
theorem dX11_readTarga_473 : decode cX11_readTarga 473 = .ok (.if_icmp .eq 25, 3) := by decide +kernel
theorem dX11_readTarga_476 : decode cX11_readTarga 476 = .ok (.iload 11, 2) := by decide +kernel
theorem dX11_readTarga_478 : decode cX11_readTarga 478 = .ok (.bipush 24, 2) := by decide +kernel
theorem dX11_readTarga_480 : decode cX11_readTarga 480 = .ok (.if_icmp .eq 18, 3) := by decide +kernel
theorem dX11_readTarga_483 : decode cX11_readTarga 483 = .ok (.iload 11, 2) := by decide +kernel
theorem dX11_readTarga_485 : decode cX11_readTarga 485 = .ok (.bipush 32, 2) := by decide +kernel
theorem dX11_readTarga_487 : decode cX11_readTarga 487 = .ok (.if_icmp .eq 11, 3) := by decide +kernel
theorem dX11_readTarga_490 : decode cX11_readTarga 490 = .ok (.aload_n 0, 1) := by decide +kernel
theorem dX11_readTarga_491 : decode cX11_readTarga 491 = .ok (.iconst 2, 1) := by decide +kernel
theorem dX11_readTarga_492 : decode cX11_readTarga 492 = .ok (.bipush 16, 2) := by decide +kernel
theorem dX11_readTarga_494 : decode cX11_readTarga 494 = .ok (.invokevirtual 90, 3) := by decide +kernel
theorem dX11_readTarga_497 : decode cX11_readTarga 497 = .ok (.ireturn, 1) := by decide +kernel
theorem dX11_readTarga_498 : decode cX11_readTarga 498 = .ok (.aload_n 0, 1) := by decide +kernel
theorem dX11_readTarga_499 : decode cX11_readTarga 499 = .ok (.bipush 17, 2) := by decide +kernel
theorem dX11_readTarga_501 : decode cX11_readTarga 501 = .ok (.putfield 84, 3) := by decide +kernel
theorem dX11_readTarga_504 : decode cX11_readTarga 504 = .ok (.aload_n 0, 1) := by decide +kernel
theorem dX11_readTarga_505 : decode cX11_readTarga 505 = .ok (.iconst 1, 1) := by decide +kernel
theorem dX11_readTarga_506 : decode cX11_readTarga 506 = .ok (.invokevirtual 103, 3) := by decide +kernel
theorem dX11_readTarga_509 : decode cX11_readTarga 509 = .ok (.ifCond .ne 5, 3) := by decide +kernel
theorem dX11_readTarga_512 : decode cX11_readTarga 512 = .ok (.iconst 0, 1) := by decide +kernel
theorem dX11_readTarga_513 : decode cX11_readTarga 513 = .ok (.ireturn, 1) := by decide +kernel
theorem dX11_readTarga_514 : decode cX11_readTarga 514 = .ok (.aload_n 0, 1) := by decide +kernel
theorem dX11_readTarga_515 : decode cX11_readTarga 515 = .ok (.bipush 17, 2) := by decide +kernel
theorem dX11_readTarga_517 : decode cX11_readTarga 517 = .ok (.invokevirtual 99, 3) := by decide +kernel
theorem dX11_readTarga_520 : decode cX11_readTarga 520 = .ok (.istore 12, 2) := by decide +kernel
theorem dX11_readTarga_522 : decode cX11_readTarga 522 = .ok (.iload 12, 2) := by decide +kernel
theorem dX11_readTarga_524 : decode cX11_readTarga 524 = .ok (.bipush 15, 2) := by decide +kernel
theorem dX11_readTarga_526 : decode cX11_readTarga 526 = .ok (.iand, 1) := by decide +kernel
theorem dX11_readTarga_527 : decode cX11_readTarga 527 = .ok (.istore 13, 2) := by decide +kernel
theorem dX11_readTarga_529 : decode cX11_readTarga 529 = .ok (.iload 4, 2) := by decide +kernel
theorem dX11_readTarga_531 : decode cX11_readTarga 531 = .ok (.ifCond .eq 8, 3) := by decide +kernel
theorem dX11_readTarga_534 : decode cX11_readTarga 534 = .ok (.iload 8, 2) := by decide +kernel
theorem dX11_readTarga_536 : decode cX11_readTarga 536 = .ok (.goto 5, 3) := by decide +kernel
theorem dX11_readTarga_539 : decode cX11_readTarga 539 = .ok (.iload 11, 2) := by decide +kernel
theorem dX11_readTarga_541 : decode cX11_readTarga 541 = .ok (.istore 14, 2) := by decide +kernel
theorem dX11_readTarga_543 : decode cX11_readTarga 543 = .ok (.iload 12, 2) := by decide +kernel
theorem dX11_readTarga_545 : decode cX11_readTarga 545 = .ok (.sipush 192, 3) := by decide +kernel
theorem dX11_readTarga_548 : decode cX11_readTarga 548 = .ok (.iand, 1) := by decide +kernel
theorem dX11_readTarga_549 : decode cX11_readTarga 549 = .ok (.ifCond .ne 35, 3) := by decide +kernel
theorem dX11_readTarga_552 : decode cX11_readTarga 552 = .ok (.iload 13, 2) := by decide +kernel
theorem dX11_readTarga_554 : decode cX11_readTarga 554 = .ok (.ifCond .eq 38, 3) := by decide +kernel
theorem dX11_readTarga_557 : decode cX11_readTarga 557 = .ok (.iload 14, 2) := by decide +kernel
theorem dX11_readTarga_559 : decode cX11_readTarga 559 = .ok (.bipush 32, 2) := by decide +kernel
theorem dX11_readTarga_561 : decode cX11_readTarga 561 = .ok (.if_icmp .ne 10, 3) := by decide +kernel
theorem dX11_readTarga_564 : decode cX11_readTarga 564 = .ok (.iload 13, 2) := by decide +kernel
theorem dX11_readTarga_566 : decode cX11_readTarga 566 = .ok (.bipush 8, 2) := by decide +kernel
theorem dX11_readTarga_568 : decode cX11_readTarga 568 = .ok (.if_icmp .eq 24, 3) := by decide +kernel
theorem dX11_readTarga_571 : decode cX11_readTarga 571 = .ok (.iload 14, 2) := by decide +kernel
theorem dX11_readTarga_573 : decode cX11_readTarga 573 = .ok (.bipush 16, 2) := by decide +kernel
theorem dX11_readTarga_575 : decode cX11_readTarga 575 = .ok (.if_icmp .ne 9, 3) := by decide +kernel
theorem dX11_readTarga_578 : decode cX11_readTarga 578 = .ok (.iload 13, 2) := by decide +kernel
theorem dX11_readTarga_580 : decode cX11_readTarga 580 = .ok (.iconst 1, 1) := by decide +kernel
theorem dX11_readTarga_581 : decode cX11_readTarga 581 = .ok (.if_icmp .eq 11, 3) := by decide +kernel
theorem dX11_readTarga_584 : decode cX11_readTarga 584 = .ok (.aload_n 0, 1) := by decide +kernel
theorem dX11_readTarga_585 : decode cX11_readTarga 585 = .ok (.iconst 2, 1) := by decide +kernel
theorem dX11_readTarga_586 : decode cX11_readTarga 586 = .ok (.bipush 17, 2) := by decide +kernel
theorem dX11_readTarga_588 : decode cX11_readTarga 588 = .ok (.invokevirtual 90, 3) := by decide +kernel
theorem dX11_readTarga_591 : decode cX11_readTarga 591 = .ok (.ireturn, 1) := by decide +kernel
theorem dX11_readTarga_592 : decode cX11_readTarga 592 = .ok (.aload_n 0, 1) := by decide +kernel
theorem dX11_readTarga_593 : decode cX11_readTarga 593 = .ok (.bipush 18, 2) := by decide +kernel
theorem dX11_readTarga_595 : decode cX11_readTarga 595 = .ok (.putfield 84, 3) := by decide +kernel
theorem dX11_readTarga_598 : decode cX11_readTarga 598 = .ok (.aload_n 0, 1) := by decide +kernel
theorem dX11_readTarga_599 : decode cX11_readTarga 599 = .ok (.iload_n 1, 1) := by decide +kernel
theorem dX11_readTarga_600 : decode cX11_readTarga 600 = .ok (.invokevirtual 103, 3) := by decide +kernel
theorem dX11_readTarga_603 : decode cX11_readTarga 603 = .ok (.ifCond .ne 5, 3) := by decide +kernel
theorem dX11_readTarga_606 : decode cX11_readTarga 606 = .ok (.iconst 0, 1) := by decide +kernel
theorem dX11_readTarga_607 : decode cX11_readTarga 607 = .ok (.ireturn, 1) := by decide +kernel
theorem dX11_readTarga_608 : decode cX11_readTarga 608 = .ok (.aload_n 0, 1) := by decide +kernel
theorem dX11_readTarga_609 : decode cX11_readTarga 609 = .ok (.dup, 1) := by decide +kernel
theorem dX11_readTarga_610 : decode cX11_readTarga 610 = .ok (.getfield 84, 3) := by decide +kernel
theorem dX11_readTarga_613 : decode cX11_readTarga 613 = .ok (.iload_n 1, 1) := by decide +kernel
theorem dX11_readTarga_614 : decode cX11_readTarga 614 = .ok (.iadd, 1) := by decide +kernel
theorem dX11_readTarga_615 : decode cX11_readTarga 615 = .ok (.putfield 84, 3) := by decide +kernel
theorem dX11_readTarga_618 : decode cX11_readTarga 618 = .ok (.iload 8, 2) := by decide +kernel
theorem dX11_readTarga_620 : decode cX11_readTarga 620 = .ok (.bipush 7, 2) := by decide +kernel
theorem dX11_readTarga_622 : decode cX11_readTarga 622 = .ok (.iadd, 1) := by decide +kernel
theorem dX11_readTarga_623 : decode cX11_readTarga 623 = .ok (.bipush 8, 2) := by decide +kernel
theorem dX11_readTarga_625 : decode cX11_readTarga 625 = .ok (.idiv, 1) := by decide +kernel
theorem dX11_readTarga_626 : decode cX11_readTarga 626 = .ok (.istore 15, 2) := by decide +kernel
theorem dX11_readTarga_628 : decode cX11_readTarga 628 = .ok (.aload_n 0, 1) := by decide +kernel
theorem dX11_readTarga_629 : decode cX11_readTarga 629 = .ok (.iload 7, 2) := by decide +kernel
theorem dX11_readTarga_631 : decode cX11_readTarga 631 = .ok (.iload 15, 2) := by decide +kernel
theorem dX11_readTarga_633 : decode cX11_readTarga 633 = .ok (.imul, 1) := by decide +kernel
theorem dX11_readTarga_634 : decode cX11_readTarga 634 = .ok (.invokevirtual 103, 3) := by decide +kernel
theorem dX11_readTarga_637 : decode cX11_readTarga 637 = .ok (.ifCond .ne 5, 3) := by decide +kernel
theorem dX11_readTarga_640 : decode cX11_readTarga 640 = .ok (.iconst 0, 1) := by decide +kernel

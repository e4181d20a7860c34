theorem dX8_init_0 : decode cX8_init 0 = .ok (.aload_n 0, 1) := by decide +kernel
theorem dX8_init_1 : decode cX8_init 1 = .ok (.invokespecial 1, 3) := by decide +kernel
theorem dX8_init_4 : decode cX8_init 4 = .ok (.aload_n 0, 1) := by decide +kernel
theorem dX8_init_5 : decode cX8_init 5 = .ok (.bipush 6, 2) := by decide +kernel
theorem dX8_init_7 : decode cX8_init 7 = .ok (.newarray .int, 2) := by decide +kernel
theorem dX8_init_9 : decode cX8_init 9 = .ok (.putfield 9, 3) := by decide +kernel
theorem dX8_init_12 : decode cX8_init 12 = .ok (.aload_n 0, 1) := by decide +kernel
theorem dX8_init_13 : decode cX8_init 13 = .ok (.bipush 6, 2) := by decide +kernel
theorem dX8_init_15 : decode cX8_init 15 = .ok (.newarray .int, 2) := by decide +kernel
theorem dX8_init_17 : decode cX8_init 17 = .ok (.putfield 13, 3) := by decide +kernel
theorem dX8_init_20 : decode cX8_init 20 = .ok (.aload_n 0, 1) := by decide +kernel
theorem dX8_init_21 : decode cX8_init 21 = .ok (.bipush 6, 2) := by decide +kernel
theorem dX8_init_23 : decode cX8_init 23 = .ok (.newarray .int, 2) := by decide +kernel
theorem dX8_init_25 : decode cX8_init 25 = .ok (.putfield 16, 3) := by decide +kernel
theorem dX8_init_28 : decode cX8_init 28 = .ok (.aload_n 0, 1) := by decide +kernel
theorem dX8_init_29 : decode cX8_init 29 = .ok (.bipush 48, 2) := by decide +kernel
theorem dX8_init_31 : decode cX8_init 31 = .ok (.newarray .int, 2) := by decide +kernel
theorem dX8_init_33 : decode cX8_init 33 = .ok (.putfield 19, 3) := by decide +kernel
theorem dX8_init_36 : decode cX8_init 36 = .ok (.aload_n 0, 1) := by decide +kernel
theorem dX8_init_37 : decode cX8_init 37 = .ok (.sipush 384, 3) := by decide +kernel
theorem dX8_init_40 : decode cX8_init 40 = .ok (.newarray .int, 2) := by decide +kernel
theorem dX8_init_42 : decode cX8_init 42 = .ok (.putfield 22, 3) := by decide +kernel
theorem dX8_init_45 : decode cX8_init 45 = .ok (.aload_n 0, 1) := by decide +kernel
theorem dX8_init_46 : decode cX8_init 46 = .ok (.sipush 288, 3) := by decide +kernel
theorem dX8_init_49 : decode cX8_init 49 = .ok (.newarray .int, 2) := by decide +kernel
theorem dX8_init_51 : decode cX8_init 51 = .ok (.putfield 25, 3) := by decide +kernel
theorem dX8_init_54 : decode cX8_init 54 = .ok (.aload_n 0, 1) := by decide +kernel
theorem dX8_init_55 : decode cX8_init 55 = .ok (.bipush 60, 2) := by decide +kernel
theorem dX8_init_57 : decode cX8_init 57 = .ok (.newarray .int, 2) := by decide +kernel
theorem dX8_init_59 : decode cX8_init 59 = .ok (.putfield 28, 3) := by decide +kernel
theorem dX8_init_62 : decode cX8_init 62 = .ok (.aload_n 0, 1) := by decide +kernel
theorem dX8_init_63 : decode cX8_init 63 = .ok (.new 31, 3) := by decide +kernel
theorem dX8_init_66 : decode cX8_init 66 = .ok (.dup, 1) := by decide +kernel
theorem dX8_init_67 : decode cX8_init 67 = .ok (.sipush 420, 3) := by decide +kernel
theorem dX8_init_70 : decode cX8_init 70 = .ok (.invokespecial 33, 3) := by decide +kernel
theorem dX8_init_73 : decode cX8_init 73 = .ok (.putfield 36, 3) := by decide +kernel
theorem dX8_init_76 : decode cX8_init 76 = .ok (.aload_n 0, 1) := by decide +kernel
theorem dX8_init_77 : decode cX8_init 77 = .ok (.sipush 480, 3) := by decide +kernel
theorem dX8_init_80 : decode cX8_init 80 = .ok (.anewarray 31, 3) := by decide +kernel
theorem dX8_init_83 : decode cX8_init 83 = .ok (.putfield 40, 3) := by decide +kernel
theorem dX8_init_86 : decode cX8_init 86 = .ok (.aload_n 0, 1) := by decide +kernel
theorem dX8_init_87 : decode cX8_init 87 = .ok (.sipush 480, 3) := by decide +kernel
theorem dX8_init_90 : decode cX8_init 90 = .ok (.anewarray 31, 3) := by decide +kernel
theorem dX8_init_93 : decode cX8_init 93 = .ok (.putfield 44, 3) := by decide +kernel
theorem dX8_init_96 : decode cX8_init 96 = .ok (.aload_n 0, 1) := by decide +kernel
theorem dX8_init_97 : decode cX8_init 97 = .ok (.sipush 9600, 3) := by decide +kernel
theorem dX8_init_100 : decode cX8_init 100 = .ok (.anewarray 31, 3) := by decide +kernel
theorem dX8_init_103 : decode cX8_init 103 = .ok (.putfield 47, 3) := by decide +kernel
theorem dX8_init_106 : decode cX8_init 106 = .ok (.aload_n 0, 1) := by decide +kernel
theorem dX8_init_107 : decode cX8_init 107 = .ok (.sipush 9600, 3) := by decide +kernel
theorem dX8_init_110 : decode cX8_init 110 = .ok (.newarray .int, 2) := by decide +kernel
theorem dX8_init_112 : decode cX8_init 112 = .ok (.putfield 50, 3) := by decide +kernel
theorem dX8_init_115 : decode cX8_init 115 = .ok (.aload_n 0, 1) := by decide +kernel
theorem dX8_init_116 : decode cX8_init 116 = .ok (.sipush 9600, 3) := by decide +kernel
theorem dX8_init_119 : decode cX8_init 119 = .ok (.newarray .int, 2) := by decide +kernel
theorem dX8_init_121 : decode cX8_init 121 = .ok (.putfield 53, 3) := by decide +kernel
theorem dX8_init_124 : decode cX8_init 124 = .ok (.aload_n 0, 1) := by decide +kernel
theorem dX8_init_125 : decode cX8_init 125 = .ok (.sipush 480, 3) := by decide +kernel
theorem dX8_init_128 : decode cX8_init 128 = .ok (.newarray .int, 2) := by decide +kernel
theorem dX8_init_130 : decode cX8_init 130 = .ok (.putfield 56, 3) := by decide +kernel
theorem dX8_init_133 : decode cX8_init 133 = .ok (.aload_n 0, 1) := by decide +kernel
theorem dX8_init_134 : decode cX8_init 134 = .ok (.bipush 8, 2) := by decide +kernel
theorem dX8_init_136 : decode cX8_init 136 = .ok (.newarray .int, 2) := by decide +kernel
theorem dX8_init_138 : decode cX8_init 138 = .ok (.putfield 59, 3) := by decide +kernel
theorem dX8_init_141 : decode cX8_init 141 = .ok (.aload_n 0, 1) := by decide +kernel
theorem dX8_init_142 : decode cX8_init 142 = .ok (.bipush 60, 2) := by decide +kernel
theorem dX8_init_144 : decode cX8_init 144 = .ok (.newarray .int, 2) := by decide +kernel
theorem dX8_init_146 : decode cX8_init 146 = .ok (.putfield 62, 3) := by decide +kernel
theorem dX8_init_149 : decode cX8_init 149 = .ok (.aload_n 0, 1) := by decide +kernel
theorem dX8_init_150 : decode cX8_init 150 = .ok (.sipush 288, 3) := by decide +kernel
theorem dX8_init_153 : decode cX8_init 153 = .ok (.anewarray 31, 3) := by decide +kernel
theorem dX8_init_156 : decode cX8_init 156 = .ok (.putfield 65, 3) := by decide +kernel
theorem dX8_init_159 : decode cX8_init 159 = .ok (.aload_n 0, 1) := by decide +kernel
theorem dX8_init_160 : decode cX8_init 160 = .ok (.sipush 256, 3) := by decide +kernel
theorem dX8_init_163 : decode cX8_init 163 = .ok (.anewarray 31, 3) := by decide +kernel
theorem dX8_init_166 : decode cX8_init 166 = .ok (.putfield 68, 3) := by decide +kernel
theorem dX8_init_169 : decode cX8_init 169 = .ok (.aload_n 0, 1) := by decide +kernel
theorem dX8_init_170 : decode cX8_init 170 = .ok (.bipush 16, 2) := by decide +kernel
theorem dX8_init_172 : decode cX8_init 172 = .ok (.newarray .int, 2) := by decide +kernel
theorem dX8_init_174 : decode cX8_init 174 = .ok (.putfield 71, 3) := by decide +kernel
theorem dX8_init_177 : decode cX8_init 177 = .ok (.aload_n 0, 1) := by decide +kernel
theorem dX8_init_178 : decode cX8_init 178 = .ok (.bipush 18, 2) := by decide +kernel
theorem dX8_init_180 : decode cX8_init 180 = .ok (.newarray .int, 2) := by decide +kernel
theorem dX8_init_182 : decode cX8_init 182 = .ok (.putfield 74, 3) := by decide +kernel
theorem dX8_init_185 : decode cX8_init 185 = .ok (.aload_n 0, 1) := by decide +kernel
theorem dX8_init_186 : decode cX8_init 186 = .ok (.bipush 18, 2) := by decide +kernel
theorem dX8_init_188 : decode cX8_init 188 = .ok (.newarray .int, 2) := by decide +kernel
theorem dX8_init_190 : decode cX8_init 190 = .ok (.putfield 77, 3) := by decide +kernel
theorem dX8_init_193 : decode cX8_init 193 = .ok (.aload_n 0, 1) := by decide +kernel
theorem dX8_init_194 : decode cX8_init 194 = .ok (.bipush 16, 2) := by decide +kernel
theorem dX8_init_196 : decode cX8_init 196 = .ok (.anewarray 31, 3) := by decide +kernel
theorem dX8_init_199 : decode cX8_init 199 = .ok (.putfield 80, 3) := by decide +kernel
theorem dX8_init_202 : decode cX8_init 202 = .ok (.aload_n 0, 1) := by decide +kernel
theorem dX8_init_203 : decode cX8_init 203 = .ok (.new 31, 3) := by decide +kernel
theorem dX8_init_206 : decode cX8_init 206 = .ok (.dup, 1) := by decide +kernel
theorem dX8_init_207 : decode cX8_init 207 = .ok (.sipush 420, 3) := by decide +kernel
theorem dX8_init_210 : decode cX8_init 210 = .ok (.invokespecial 33, 3) := by decide +kernel
theorem dX8_init_213 : decode cX8_init 213 = .ok (.putfield 83, 3) := by decide +kernel
theorem dX8_init_216 : decode cX8_init 216 = .ok (.aload_n 0, 1) := by decide +kernel
theorem dX8_init_217 : decode cX8_init 217 = .ok (.new 31, 3) := by decide +kernel
theorem dX8_init_220 : decode cX8_init 220 = .ok (.dup, 1) := by decide +kernel
theorem dX8_init_221 : decode cX8_init 221 = .ok (.sipush 420, 3) := by decide +kernel
theorem dX8_init_224 : decode cX8_init 224 = .ok (.invokespecial 33, 3) := by decide +kernel
theorem dX8_init_227 : decode cX8_init 227 = .ok (.putfield 86, 3) := by decide +kernel
theorem dX8_init_230 : decode cX8_init 230 = .ok (.aload_n 0, 1) := by decide +kernel
theorem dX8_init_231 : decode cX8_init 231 = .ok (.new 31, 3) := by decide +kernel
theorem dX8_init_234 : decode cX8_init 234 = .ok (.dup, 1) := by decide +kernel
theorem dX8_init_235 : decode cX8_init 235 = .ok (.sipush 420, 3) := by decide +kernel
theorem dX8_init_238 : decode cX8_init 238 = .ok (.invokespecial 33, 3) := by decide +kernel
theorem dX8_init_241 : decode cX8_init 241 = .ok (.putfield 89, 3) := by decide +kernel
theorem dX8_init_244 : decode cX8_init 244 = .ok (.aload_n 0, 1) := by decide +kernel
theorem dX8_init_245 : decode cX8_init 245 = .ok (.new 31, 3) := by decide +kernel
theorem dX8_init_248 : decode cX8_init 248 = .ok (.dup, 1) := by decide +kernel
theorem dX8_init_249 : decode cX8_init 249 = .ok (.sipush 420, 3) := by decide +kernel
theorem dX8_init_252 : decode cX8_init 252 = .ok (.invokespecial 33, 3) := by decide +kernel
theorem dX8_init_255 : decode cX8_init 255 = .ok (.putfield 92, 3) := by decide +kernel
theorem dX8_init_258 : decode cX8_init 258 = .ok (.aload_n 0, 1) := by decide +kernel
theorem dX8_init_259 : decode cX8_init 259 = .ok (.new 31, 3) := by decide +kernel
theorem dX8_init_262 : decode cX8_init 262 = .ok (.dup, 1) := by decide +kernel
theorem dX8_init_263 : decode cX8_init 263 = .ok (.sipush 420, 3) := by decide +kernel
theorem dX8_init_266 : decode cX8_init 266 = .ok (.invokespecial 33, 3) := by decide +kernel
theorem dX8_init_269 : decode cX8_init 269 = .ok (.putfield 95, 3) := by decide +kernel
theorem dX8_init_272 : decode cX8_init 272 = .ok (.aload_n 0, 1) := by decide +kernel
theorem dX8_init_273 : decode cX8_init 273 = .ok (.new 31, 3) := by decide +kernel
theorem dX8_init_276 : decode cX8_init 276 = .ok (.dup, 1) := by decide +kernel
theorem dX8_init_277 : decode cX8_init 277 = .ok (.iconst 4, 1) := by decide +kernel
theorem dX8_init_278 : decode cX8_init 278 = .ok (.invokespecial 33, 3) := by decide +kernel
theorem dX8_init_281 : decode cX8_init 281 = .ok (.putfield 98, 3) := by decide +kernel
theorem dX8_init_284 : decode cX8_init 284 = .ok (.iconst 0, 1) := by decide +kernel
theorem dX8_init_285 : decode cX8_init 285 = .ok (.istore_n 1, 1) := by decide +kernel
theorem dX8_init_286 : decode cX8_init 286 = .ok (.iload_n 1, 1) := by decide +kernel
theorem dX8_init_287 : decode cX8_init 287 = .ok (.sipush 480, 3) := by decide +kernel
theorem dX8_init_290 : decode cX8_init 290 = .ok (.if_icmp .ge 39, 3) := by decide +kernel
theorem dX8_init_293 : decode cX8_init 293 = .ok (.aload_n 0, 1) := by decide +kernel
theorem dX8_init_294 : decode cX8_init 294 = .ok (.getfield 40, 3) := by decide +kernel
theorem dX8_init_297 : decode cX8_init 297 = .ok (.iload_n 1, 1) := by decide +kernel
theorem dX8_init_298 : decode cX8_init 298 = .ok (.new 31, 3) := by decide +kernel
theorem dX8_init_301 : decode cX8_init 301 = .ok (.dup, 1) := by decide +kernel
theorem dX8_init_302 : decode cX8_init 302 = .ok (.bipush 48, 2) := by decide +kernel
theorem dX8_init_304 : decode cX8_init 304 = .ok (.invokespecial 33, 3) := by decide +kernel
theorem dX8_init_307 : decode cX8_init 307 = .ok (.aastore, 1) := by decide +kernel
theorem dX8_init_308 : decode cX8_init 308 = .ok (.aload_n 0, 1) := by decide +kernel
theorem dX8_init_309 : decode cX8_init 309 = .ok (.getfield 44, 3) := by decide +kernel
theorem dX8_init_312 : decode cX8_init 312 = .ok (.iload_n 1, 1) := by decide +kernel
theorem dX8_init_313 : decode cX8_init 313 = .ok (.new 31, 3) := by decide +kernel
theorem dX8_init_316 : decode cX8_init 316 = .ok (.dup, 1) := by decide +kernel
theorem dX8_init_317 : decode cX8_init 317 = .ok (.bipush 48, 2) := by decide +kernel
theorem dX8_init_319 : decode cX8_init 319 = .ok (.invokespecial 33, 3) := by decide +kernel
theorem dX8_init_322 : decode cX8_init 322 = .ok (.aastore, 1) := by decide +kernel
theorem dX8_init_323 : decode cX8_init 323 = .ok (.iinc 1 1, 3) := by decide +kernel
theorem dX8_init_326 : decode cX8_init 326 = .ok (.goto (-40), 3) := by decide +kernel
theorem dX8_init_329 : decode cX8_init 329 = .ok (.iconst 0, 1) := by decide +kernel
theorem dX8_init_330 : decode cX8_init 330 = .ok (.istore_n 1, 1) := by decide +kernel
theorem dX8_init_331 : decode cX8_init 331 = .ok (.iload_n 1, 1) := by decide +kernel
theorem dX8_init_332 : decode cX8_init 332 = .ok (.sipush 9600, 3) := by decide +kernel
theorem dX8_init_335 : decode cX8_init 335 = .ok (.if_icmp .ge 24, 3) := by decide +kernel
theorem dX8_init_338 : decode cX8_init 338 = .ok (.aload_n 0, 1) := by decide +kernel
theorem dX8_init_339 : decode cX8_init 339 = .ok (.getfield 47, 3) := by decide +kernel
theorem dX8_init_342 : decode cX8_init 342 = .ok (.iload_n 1, 1) := by decide +kernel
theorem dX8_init_343 : decode cX8_init 343 = .ok (.new 31, 3) := by decide +kernel
theorem dX8_init_346 : decode cX8_init 346 = .ok (.dup, 1) := by decide +kernel
theorem dX8_init_347 : decode cX8_init 347 = .ok (.bipush 48, 2) := by decide +kernel
theorem dX8_init_349 : decode cX8_init 349 = .ok (.invokespecial 33, 3) := by decide +kernel
theorem dX8_init_352 : decode cX8_init 352 = .ok (.aastore, 1) := by decide +kernel
theorem dX8_init_353 : decode cX8_init 353 = .ok (.iinc 1 1, 3) := by decide +kernel
theorem dX8_init_356 : decode cX8_init 356 = .ok (.goto (-25), 3) := by decide +kernel
theorem dX8_init_359 : decode cX8_init 359 = .ok (.iconst 0, 1) := by decide +kernel
theorem dX8_init_360 : decode cX8_init 360 = .ok (.istore_n 1, 1) := by decide +kernel
theorem dX8_init_361 : decode cX8_init 361 = .ok (.iload_n 1, 1) := by decide +kernel
theorem dX8_init_362 : decode cX8_init 362 = .ok (.sipush 288, 3) := by decide +kernel
theorem dX8_init_365 : decode cX8_init 365 = .ok (.if_icmp .ge 24, 3) := by decide +kernel
theorem dX8_init_368 : decode cX8_init 368 = .ok (.aload_n 0, 1) := by decide +kernel
theorem dX8_init_369 : decode cX8_init 369 = .ok (.getfield 65, 3) := by decide +kernel
theorem dX8_init_372 : decode cX8_init 372 = .ok (.iload_n 1, 1) := by decide +kernel
theorem dX8_init_373 : decode cX8_init 373 = .ok (.new 31, 3) := by decide +kernel
theorem dX8_init_376 : decode cX8_init 376 = .ok (.dup, 1) := by decide +kernel
theorem dX8_init_377 : decode cX8_init 377 = .ok (.bipush 48, 2) := by decide +kernel
theorem dX8_init_379 : decode cX8_init 379 = .ok (.invokespecial 33, 3) := by decide +kernel
theorem dX8_init_382 : decode cX8_init 382 = .ok (.aastore, 1) := by decide +kernel
theorem dX8_init_383 : decode cX8_init 383 = .ok (.iinc 1 1, 3) := by decide +kernel
theorem dX8_init_386 : decode cX8_init 386 = .ok (.goto (-25), 3) := by decide +kernel
theorem dX8_init_389 : decode cX8_init 389 = .ok (.iconst 0, 1) := by decide +kernel
theorem dX8_init_390 : decode cX8_init 390 = .ok (.istore_n 1, 1) := by decide +kernel
theorem dX8_init_391 : decode cX8_init 391 = .ok (.iload_n 1, 1) := by decide +kernel
theorem dX8_init_392 : decode cX8_init 392 = .ok (.sipush 256, 3) := by decide +kernel
theorem dX8_init_395 : decode cX8_init 395 = .ok (.if_icmp .ge 25, 3) := by decide +kernel
theorem dX8_init_398 : decode cX8_init 398 = .ok (.aload_n 0, 1) := by decide +kernel
theorem dX8_init_399 : decode cX8_init 399 = .ok (.getfield 68, 3) := by decide +kernel
theorem dX8_init_402 : decode cX8_init 402 = .ok (.iload_n 1, 1) := by decide +kernel
theorem dX8_init_403 : decode cX8_init 403 = .ok (.new 31, 3) := by decide +kernel
theorem dX8_init_406 : decode cX8_init 406 = .ok (.dup, 1) := by decide +kernel
theorem dX8_init_407 : decode cX8_init 407 = .ok (.sipush 420, 3) := by decide +kernel
theorem dX8_init_410 : decode cX8_init 410 = .ok (.invokespecial 33, 3) := by decide +kernel
theorem dX8_init_413 : decode cX8_init 413 = .ok (.aastore, 1) := by decide +kernel
theorem dX8_init_414 : decode cX8_init 414 = .ok (.iinc 1 1, 3) := by decide +kernel
theorem dX8_init_417 : decode cX8_init 417 = .ok (.goto (-26), 3) := by decide +kernel
theorem dX8_init_420 : decode cX8_init 420 = .ok (.iconst 0, 1) := by decide +kernel
theorem dX8_init_421 : decode cX8_init 421 = .ok (.istore_n 1, 1) := by decide +kernel
theorem dX8_init_422 : decode cX8_init 422 = .ok (.iload_n 1, 1) := by decide +kernel
theorem dX8_init_423 : decode cX8_init 423 = .ok (.bipush 16, 2) := by decide +kernel
theorem dX8_init_425 : decode cX8_init 425 = .ok (.if_icmp .ge 25, 3) := by decide +kernel
theorem dX8_init_428 : decode cX8_init 428 = .ok (.aload_n 0, 1) := by decide +kernel
theorem dX8_init_429 : decode cX8_init 429 = .ok (.getfield 80, 3) := by decide +kernel
theorem dX8_init_432 : decode cX8_init 432 = .ok (.iload_n 1, 1) := by decide +kernel
theorem dX8_init_433 : decode cX8_init 433 = .ok (.new 31, 3) := by decide +kernel
theorem dX8_init_436 : decode cX8_init 436 = .ok (.dup, 1) := by decide +kernel
theorem dX8_init_437 : decode cX8_init 437 = .ok (.sipush 420, 3) := by decide +kernel
theorem dX8_init_440 : decode cX8_init 440 = .ok (.invokespecial 33, 3) := by decide +kernel
theorem dX8_init_443 : decode cX8_init 443 = .ok (.aastore, 1) := by decide +kernel
theorem dX8_init_444 : decode cX8_init 444 = .ok (.iinc 1 1, 3) := by decide +kernel
theorem dX8_init_447 : decode cX8_init 447 = .ok (.goto (-25), 3) := by decide +kernel
theorem dX8_init_450 : decode cX8_init 450 = .ok (.return_, 1) := by decide +kernel
theorem dX8_is_0 : decode cX8_is 0 = .ok (.iload_n 1, 1) := by decide +kernel
theorem dX8_is_1 : decode cX8_is 1 = .ok (.ifCond .lt 15, 3) := by decide +kernel
theorem dX8_is_4 : decode cX8_is 4 = .ok (.iload_n 1, 1) := by decide +kernel
theorem dX8_is_5 : decode cX8_is 5 = .ok (.aload_n 0, 1) := by decide +kernel
theorem dX8_is_6 : decode cX8_is 6 = .ok (.getfield 101, 3) := by decide +kernel
theorem dX8_is_9 : decode cX8_is 9 = .ok (.if_icmp .ge 7, 3) := by decide +kernel
theorem dX8_is_12 : decode cX8_is 12 = .ok (.iconst 1, 1) := by decide +kernel
theorem dX8_is_13 : decode cX8_is 13 = .ok (.goto 4, 3) := by decide +kernel
theorem dX8_is_16 : decode cX8_is 16 = .ok (.iconst 0, 1) := by decide +kernel
theorem dX8_is_17 : decode cX8_is 17 = .ok (.ireturn, 1) := by decide +kernel
theorem dX8_isState_0 : decode cX8_isState 0 = .ok (.iload_n 2, 1) := by decide +kernel
theorem dX8_isState_1 : decode cX8_isState 1 = .ok (.ifCond .lt 17, 3) := by decide +kernel
theorem dX8_isState_4 : decode cX8_isState 4 = .ok (.iload_n 2, 1) := by decide +kernel
theorem dX8_isState_5 : decode cX8_isState 5 = .ok (.aload_n 0, 1) := by decide +kernel
theorem dX8_isState_6 : decode cX8_isState 6 = .ok (.getfield 9, 3) := by decide +kernel
theorem dX8_isState_9 : decode cX8_isState 9 = .ok (.iload_n 1, 1) := by decide +kernel
theorem dX8_isState_10 : decode cX8_isState 10 = .ok (.iaload, 1) := by decide +kernel
theorem dX8_isState_11 : decode cX8_isState 11 = .ok (.if_icmp .ge 7, 3) := by decide +kernel
theorem dX8_isState_14 : decode cX8_isState 14 = .ok (.iconst 1, 1) := by decide +kernel
theorem dX8_isState_15 : decode cX8_isState 15 = .ok (.goto 4, 3) := by decide +kernel
theorem dX8_isState_18 : decode cX8_isState 18 = .ok (.iconst 0, 1) := by decide +kernel
theorem dX8_isState_19 : decode cX8_isState 19 = .ok (.ireturn, 1) := by decide +kernel
theorem dX8_isWeight_0 : decode cX8_isWeight 0 = .ok (.iload_n 2, 1) := by decide +kernel
theorem dX8_isWeight_1 : decode cX8_isWeight 1 = .ok (.ifCond .lt 17, 3) := by decide +kernel
theorem dX8_isWeight_4 : decode cX8_isWeight 4 = .ok (.iload_n 2, 1) := by decide +kernel
theorem dX8_isWeight_5 : decode cX8_isWeight 5 = .ok (.aload_n 0, 1) := by decide +kernel
theorem dX8_isWeight_6 : decode cX8_isWeight 6 = .ok (.getfield 16, 3) := by decide +kernel
theorem dX8_isWeight_9 : decode cX8_isWeight 9 = .ok (.iload_n 1, 1) := by decide +kernel
theorem dX8_isWeight_10 : decode cX8_isWeight 10 = .ok (.iaload, 1) := by decide +kernel
theorem dX8_isWeight_11 : decode cX8_isWeight 11 = .ok (.if_icmp .gt 7, 3) := by decide +kernel
theorem dX8_isWeight_14 : decode cX8_isWeight 14 = .ok (.iconst 1, 1) := by decide +kernel
theorem dX8_isWeight_15 : decode cX8_isWeight 15 = .ok (.goto 4, 3) := by decide +kernel
theorem dX8_isWeight_18 : decode cX8_isWeight 18 = .ok (.iconst 0, 1) := by decide +kernel
theorem dX8_isWeight_19 : decode cX8_isWeight 19 = .ok (.ireturn, 1) := by decide +kernel
theorem dX8_goOf_0 : decode cX8_goOf 0 = .ok (.aload_n 0, 1) := by decide +kernel
theorem dX8_goOf_1 : decode cX8_goOf 1 = .ok (.getfield 22, 3) := by decide +kernel
theorem dX8_goOf_4 : decode cX8_goOf 4 = .ok (.iload_n 1, 1) := by decide +kernel
theorem dX8_goOf_5 : decode cX8_goOf 5 = .ok (.bipush 8, 2) := by decide +kernel
theorem dX8_goOf_7 : decode cX8_goOf 7 = .ok (.imul, 1) := by decide +kernel
theorem dX8_goOf_8 : decode cX8_goOf 8 = .ok (.iload_n 2, 1) := by decide +kernel
theorem dX8_goOf_9 : decode cX8_goOf 9 = .ok (.iadd, 1) := by decide +kernel
theorem dX8_goOf_10 : decode cX8_goOf 10 = .ok (.bipush 8, 2) := by decide +kernel
theorem dX8_goOf_12 : decode cX8_goOf 12 = .ok (.imul, 1) := by decide +kernel
theorem dX8_goOf_13 : decode cX8_goOf 13 = .ok (.iload_n 3, 1) := by decide +kernel
theorem dX8_goOf_14 : decode cX8_goOf 14 = .ok (.iadd, 1) := by decide +kernel
theorem dX8_goOf_15 : decode cX8_goOf 15 = .ok (.iaload, 1) := by decide +kernel
theorem dX8_goOf_16 : decode cX8_goOf 16 = .ok (.ireturn, 1) := by decide +kernel
theorem dX8_showOf_0 : decode cX8_showOf 0 = .ok (.iload_n 3, 1) := by decide +kernel
theorem dX8_showOf_1 : decode cX8_showOf 1 = .ok (.ifCond .ge 12, 3) := by decide +kernel
theorem dX8_showOf_4 : decode cX8_showOf 4 = .ok (.aload_n 0, 1) := by decide +kernel
theorem dX8_showOf_5 : decode cX8_showOf 5 = .ok (.getfield 16, 3) := by decide +kernel
theorem dX8_showOf_8 : decode cX8_showOf 8 = .ok (.iload_n 1, 1) := by decide +kernel
theorem dX8_showOf_9 : decode cX8_showOf 9 = .ok (.iaload, 1) := by decide +kernel
theorem dX8_showOf_10 : decode cX8_showOf 10 = .ok (.goto 19, 3) := by decide +kernel
theorem dX8_showOf_13 : decode cX8_showOf 13 = .ok (.aload_n 0, 1) := by decide +kernel
theorem dX8_showOf_14 : decode cX8_showOf 14 = .ok (.getfield 25, 3) := by decide +kernel
theorem dX8_showOf_17 : decode cX8_showOf 17 = .ok (.iload_n 1, 1) := by decide +kernel
theorem dX8_showOf_18 : decode cX8_showOf 18 = .ok (.bipush 8, 2) := by decide +kernel
theorem dX8_showOf_20 : decode cX8_showOf 20 = .ok (.imul, 1) := by decide +kernel
theorem dX8_showOf_21 : decode cX8_showOf 21 = .ok (.iload_n 2, 1) := by decide +kernel
theorem dX8_showOf_22 : decode cX8_showOf 22 = .ok (.iadd, 1) := by decide +kernel
theorem dX8_showOf_23 : decode cX8_showOf 23 = .ok (.bipush 6, 2) := by decide +kernel
theorem dX8_showOf_25 : decode cX8_showOf 25 = .ok (.imul, 1) := by decide +kernel
theorem dX8_showOf_26 : decode cX8_showOf 26 = .ok (.iload_n 3, 1) := by decide +kernel
theorem dX8_showOf_27 : decode cX8_showOf 27 = .ok (.iadd, 1) := by decide +kernel
theorem dX8_showOf_28 : decode cX8_showOf 28 = .ok (.iaload, 1) := by decide +kernel
theorem dX8_showOf_29 : decode cX8_showOf 29 = .ok (.ireturn, 1) := by decide +kernel
theorem dX8_chain_0 : decode cX8_chain 0 = .ok (.iload_n 1, 1) := by decide +kernel
theorem dX8_chain_1 : decode cX8_chain 1 = .ok (.iconst 1, 1) := by decide +kernel
theorem dX8_chain_2 : decode cX8_chain 2 = .ok (.if_icmp .lt 32, 3) := by decide +kernel
theorem dX8_chain_5 : decode cX8_chain 5 = .ok (.iload_n 1, 1) := by decide +kernel
theorem dX8_chain_6 : decode cX8_chain 6 = .ok (.bipush 8, 2) := by decide +kernel
theorem dX8_chain_8 : decode cX8_chain 8 = .ok (.if_icmp .gt 26, 3) := by decide +kernel
theorem dX8_chain_11 : decode cX8_chain 11 = .ok (.iload_n 2, 1) := by decide +kernel
theorem dX8_chain_12 : decode cX8_chain 12 = .ok (.iconst 1, 1) := by decide +kernel
theorem dX8_chain_13 : decode cX8_chain 13 = .ok (.if_icmp .lt 21, 3) := by decide +kernel
theorem dX8_chain_16 : decode cX8_chain 16 = .ok (.iload_n 2, 1) := by decide +kernel
theorem dX8_chain_17 : decode cX8_chain 17 = .ok (.bipush 6, 2) := by decide +kernel
theorem dX8_chain_19 : decode cX8_chain 19 = .ok (.if_icmp .gt 15, 3) := by decide +kernel
theorem dX8_chain_22 : decode cX8_chain 22 = .ok (.iload_n 3, 1) := by decide +kernel
theorem dX8_chain_23 : decode cX8_chain 23 = .ok (.iconst 1, 1) := by decide +kernel
theorem dX8_chain_24 : decode cX8_chain 24 = .ok (.if_icmp .lt 10, 3) := by decide +kernel
theorem dX8_chain_27 : decode cX8_chain 27 = .ok (.iload_n 3, 1) := by decide +kernel
theorem dX8_chain_28 : decode cX8_chain 28 = .ok (.sipush 1000, 3) := by decide +kernel
theorem dX8_chain_31 : decode cX8_chain 31 = .ok (.if_icmp .le 5, 3) := by decide +kernel
theorem dX8_chain_34 : decode cX8_chain 34 = .ok (.iconst (-1), 1) := by decide +kernel
theorem dX8_chain_35 : decode cX8_chain 35 = .ok (.ireturn, 1) := by decide +kernel
theorem dX8_chain_36 : decode cX8_chain 36 = .ok (.aload_n 0, 1) := by decide +kernel
theorem dX8_chain_37 : decode cX8_chain 37 = .ok (.getfield 101, 3) := by decide +kernel
theorem dX8_chain_40 : decode cX8_chain 40 = .ok (.bipush 6, 2) := by decide +kernel
theorem dX8_chain_42 : decode cX8_chain 42 = .ok (.if_icmp .ne 6, 3) := by decide +kernel
theorem dX8_chain_45 : decode cX8_chain 45 = .ok (.bipush (-6), 2) := by decide +kernel
theorem dX8_chain_47 : decode cX8_chain 47 = .ok (.ireturn, 1) := by decide +kernel
theorem dX8_chain_48 : decode cX8_chain 48 = .ok (.aload_n 0, 1) := by decide +kernel
theorem dX8_chain_49 : decode cX8_chain 49 = .ok (.getfield 101, 3) := by decide +kernel
theorem dX8_chain_52 : decode cX8_chain 52 = .ok (.istore 4, 2) := by decide +kernel
theorem dX8_chain_54 : decode cX8_chain 54 = .ok (.aload_n 0, 1) := by decide +kernel
theorem dX8_chain_55 : decode cX8_chain 55 = .ok (.getfield 9, 3) := by decide +kernel
theorem dX8_chain_58 : decode cX8_chain 58 = .ok (.iload 4, 2) := by decide +kernel
theorem dX8_chain_60 : decode cX8_chain 60 = .ok (.iload_n 1, 1) := by decide +kernel
theorem dX8_chain_61 : decode cX8_chain 61 = .ok (.iastore, 1) := by decide +kernel
theorem dX8_chain_62 : decode cX8_chain 62 = .ok (.aload_n 0, 1) := by decide +kernel
theorem dX8_chain_63 : decode cX8_chain 63 = .ok (.getfield 13, 3) := by decide +kernel
theorem dX8_chain_66 : decode cX8_chain 66 = .ok (.iload 4, 2) := by decide +kernel
theorem dX8_chain_68 : decode cX8_chain 68 = .ok (.iload_n 2, 1) := by decide +kernel
theorem dX8_chain_69 : decode cX8_chain 69 = .ok (.iastore, 1) := by decide +kernel
theorem dX8_chain_70 : decode cX8_chain 70 = .ok (.aload_n 0, 1) := by decide +kernel
theorem dX8_chain_71 : decode cX8_chain 71 = .ok (.getfield 16, 3) := by decide +kernel
theorem dX8_chain_74 : decode cX8_chain 74 = .ok (.iload 4, 2) := by decide +kernel
theorem dX8_chain_76 : decode cX8_chain 76 = .ok (.iload_n 3, 1) := by decide +kernel
theorem dX8_chain_77 : decode cX8_chain 77 = .ok (.iastore, 1) := by decide +kernel
theorem dX8_chain_78 : decode cX8_chain 78 = .ok (.iconst 0, 1) := by decide +kernel
theorem dX8_chain_79 : decode cX8_chain 79 = .ok (.istore 5, 2) := by decide +kernel
theorem dX8_chain_81 : decode cX8_chain 81 = .ok (.iload 5, 2) := by decide +kernel
theorem dX8_chain_83 : decode cX8_chain 83 = .ok (.bipush 8, 2) := by decide +kernel
theorem dX8_chain_85 : decode cX8_chain 85 = .ok (.if_icmp .ge 95, 3) := by decide +kernel
theorem dX8_chain_88 : decode cX8_chain 88 = .ok (.aload_n 0, 1) := by decide +kernel
theorem dX8_chain_89 : decode cX8_chain 89 = .ok (.getfield 19, 3) := by decide +kernel
theorem dX8_chain_92 : decode cX8_chain 92 = .ok (.iload 4, 2) := by decide +kernel
theorem dX8_chain_94 : decode cX8_chain 94 = .ok (.bipush 8, 2) := by decide +kernel
theorem dX8_chain_96 : decode cX8_chain 96 = .ok (.imul, 1) := by decide +kernel
theorem dX8_chain_97 : decode cX8_chain 97 = .ok (.iload 5, 2) := by decide +kernel
theorem dX8_chain_99 : decode cX8_chain 99 = .ok (.iadd, 1) := by decide +kernel
theorem dX8_chain_100 : decode cX8_chain 100 = .ok (.iconst 0, 1) := by decide +kernel
theorem dX8_chain_101 : decode cX8_chain 101 = .ok (.iastore, 1) := by decide +kernel
theorem dX8_chain_102 : decode cX8_chain 102 = .ok (.iconst 0, 1) := by decide +kernel
theorem dX8_chain_103 : decode cX8_chain 103 = .ok (.istore 6, 2) := by decide +kernel
theorem dX8_chain_105 : decode cX8_chain 105 = .ok (.iload 6, 2) := by decide +kernel
theorem dX8_chain_107 : decode cX8_chain 107 = .ok (.bipush 8, 2) := by decide +kernel
theorem dX8_chain_109 : decode cX8_chain 109 = .ok (.if_icmp .ge 29, 3) := by decide +kernel
theorem dX8_chain_112 : decode cX8_chain 112 = .ok (.aload_n 0, 1) := by decide +kernel
theorem dX8_chain_113 : decode cX8_chain 113 = .ok (.getfield 22, 3) := by decide +kernel
theorem dX8_chain_116 : decode cX8_chain 116 = .ok (.iload 4, 2) := by decide +kernel
theorem dX8_chain_118 : decode cX8_chain 118 = .ok (.bipush 8, 2) := by decide +kernel
theorem dX8_chain_120 : decode cX8_chain 120 = .ok (.imul, 1) := by decide +kernel
theorem dX8_chain_121 : decode cX8_chain 121 = .ok (.iload 5, 2) := by decide +kernel
theorem dX8_chain_123 : decode cX8_chain 123 = .ok (.iadd, 1) := by decide +kernel
theorem dX8_chain_124 : decode cX8_chain 124 = .ok (.bipush 8, 2) := by decide +kernel
theorem dX8_chain_126 : decode cX8_chain 126 = .ok (.imul, 1) := by decide +kernel
theorem dX8_chain_127 : decode cX8_chain 127 = .ok (.iload 6, 2) := by decide +kernel
theorem dX8_chain_129 : decode cX8_chain 129 = .ok (.iadd, 1) := by decide +kernel
theorem dX8_chain_130 : decode cX8_chain 130 = .ok (.iconst 0, 1) := by decide +kernel
theorem dX8_chain_131 : decode cX8_chain 131 = .ok (.iastore, 1) := by decide +kernel
theorem dX8_chain_132 : decode cX8_chain 132 = .ok (.iinc 6 1, 3) := by decide +kernel
theorem dX8_chain_135 : decode cX8_chain 135 = .ok (.goto (-30), 3) := by decide +kernel
theorem dX8_chain_138 : decode cX8_chain 138 = .ok (.iconst 0, 1) := by decide +kernel
theorem dX8_chain_139 : decode cX8_chain 139 = .ok (.istore 6, 2) := by decide +kernel
theorem dX8_chain_141 : decode cX8_chain 141 = .ok (.iload 6, 2) := by decide +kernel
theorem dX8_chain_143 : decode cX8_chain 143 = .ok (.bipush 6, 2) := by decide +kernel
theorem dX8_chain_145 : decode cX8_chain 145 = .ok (.if_icmp .ge 29, 3) := by decide +kernel
theorem dX8_chain_148 : decode cX8_chain 148 = .ok (.aload_n 0, 1) := by decide +kernel
theorem dX8_chain_149 : decode cX8_chain 149 = .ok (.getfield 25, 3) := by decide +kernel
theorem dX8_chain_152 : decode cX8_chain 152 = .ok (.iload 4, 2) := by decide +kernel
theorem dX8_chain_154 : decode cX8_chain 154 = .ok (.bipush 8, 2) := by decide +kernel
theorem dX8_chain_156 : decode cX8_chain 156 = .ok (.imul, 1) := by decide +kernel
theorem dX8_chain_157 : decode cX8_chain 157 = .ok (.iload 5, 2) := by decide +kernel
theorem dX8_chain_159 : decode cX8_chain 159 = .ok (.iadd, 1) := by decide +kernel
theorem dX8_chain_160 : decode cX8_chain 160 = .ok (.bipush 6, 2) := by decide +kernel
theorem dX8_chain_162 : decode cX8_chain 162 = .ok (.imul, 1) := by decide +kernel
theorem dX8_chain_163 : decode cX8_chain 163 = .ok (.iload 6, 2) := by decide +kernel
theorem dX8_chain_165 : decode cX8_chain 165 = .ok (.iadd, 1) := by decide +kernel
theorem dX8_chain_166 : decode cX8_chain 166 = .ok (.iconst 0, 1) := by decide +kernel
theorem dX8_chain_167 : decode cX8_chain 167 = .ok (.iastore, 1) := by decide +kernel
theorem dX8_chain_168 : decode cX8_chain 168 = .ok (.iinc 6 1, 3) := by decide +kernel
theorem dX8_chain_171 : decode cX8_chain 171 = .ok (.goto (-30), 3) := by decide +kernel
theorem dX8_chain_174 : decode cX8_chain 174 = .ok (.iinc 5 1, 3) := by decide +kernel
theorem dX8_chain_177 : decode cX8_chain 177 = .ok (.goto (-96), 3) := by decide +kernel
theorem dX8_chain_180 : decode cX8_chain 180 = .ok (.aload_n 0, 1) := by decide +kernel
theorem dX8_chain_181 : decode cX8_chain 181 = .ok (.dup, 1) := by decide +kernel
theorem dX8_chain_182 : decode cX8_chain 182 = .ok (.getfield 101, 3) := by decide +kernel
theorem dX8_chain_185 : decode cX8_chain 185 = .ok (.iconst 1, 1) := by decide +kernel
theorem dX8_chain_186 : decode cX8_chain 186 = .ok (.iadd, 1) := by decide +kernel
theorem dX8_chain_187 : decode cX8_chain 187 = .ok (.putfield 101, 3) := by decide +kernel
theorem dX8_chain_190 : decode cX8_chain 190 = .ok (.iload 4, 2) := by decide +kernel
theorem dX8_chain_192 : decode cX8_chain 192 = .ok (.ireturn, 1) := by decide +kernel
theorem dX8_begin_0 : decode cX8_begin 0 = .ok (.aload_n 0, 1) := by decide +kernel
theorem dX8_begin_1 : decode cX8_begin 1 = .ok (.iload_n 1, 1) := by decide +kernel
theorem dX8_begin_2 : decode cX8_begin 2 = .ok (.invokevirtual 105, 3) := by decide +kernel
theorem dX8_begin_5 : decode cX8_begin 5 = .ok (.ifCond .eq 21, 3) := by decide +kernel
theorem dX8_begin_8 : decode cX8_begin 8 = .ok (.aload_n 0, 1) := by decide +kernel
theorem dX8_begin_9 : decode cX8_begin 9 = .ok (.iload_n 1, 1) := by decide +kernel
theorem dX8_begin_10 : decode cX8_begin 10 = .ok (.iload_n 2, 1) := by decide +kernel
theorem dX8_begin_11 : decode cX8_begin 11 = .ok (.invokevirtual 109, 3) := by decide +kernel
theorem dX8_begin_14 : decode cX8_begin 14 = .ok (.ifCond .eq 12, 3) := by decide +kernel
theorem dX8_begin_17 : decode cX8_begin 17 = .ok (.aload_n 0, 1) := by decide +kernel
theorem dX8_begin_18 : decode cX8_begin 18 = .ok (.iload_n 1, 1) := by decide +kernel
theorem dX8_begin_19 : decode cX8_begin 19 = .ok (.iload_n 3, 1) := by decide +kernel
theorem dX8_begin_20 : decode cX8_begin 20 = .ok (.invokevirtual 113, 3) := by decide +kernel
theorem dX8_begin_23 : decode cX8_begin 23 = .ok (.ifCond .ne 5, 3) := by decide +kernel
theorem dX8_begin_26 : decode cX8_begin 26 = .ok (.iconst (-1), 1) := by decide +kernel
theorem dX8_begin_27 : decode cX8_begin 27 = .ok (.ireturn, 1) := by decide +kernel
theorem dX8_begin_28 : decode cX8_begin 28 = .ok (.aload_n 0, 1) := by decide +kernel
theorem dX8_begin_29 : decode cX8_begin 29 = .ok (.getfield 19, 3) := by decide +kernel
theorem dX8_begin_32 : decode cX8_begin 32 = .ok (.iload_n 1, 1) := by decide +kernel
theorem dX8_begin_33 : decode cX8_begin 33 = .ok (.bipush 8, 2) := by decide +kernel
theorem dX8_begin_35 : decode cX8_begin 35 = .ok (.imul, 1) := by decide +kernel
theorem dX8_begin_36 : decode cX8_begin 36 = .ok (.iload_n 2, 1) := by decide +kernel
theorem dX8_begin_37 : decode cX8_begin 37 = .ok (.iadd, 1) := by decide +kernel
theorem dX8_begin_38 : decode cX8_begin 38 = .ok (.iaload, 1) := by decide +kernel
theorem dX8_begin_39 : decode cX8_begin 39 = .ok (.istore 4, 2) := by decide +kernel
theorem dX8_begin_41 : decode cX8_begin 41 = .ok (.aload_n 0, 1) := by decide +kernel
theorem dX8_begin_42 : decode cX8_begin 42 = .ok (.getfield 19, 3) := by decide +kernel
theorem dX8_begin_45 : decode cX8_begin 45 = .ok (.iload_n 1, 1) := by decide +kernel
theorem dX8_begin_46 : decode cX8_begin 46 = .ok (.bipush 8, 2) := by decide +kernel
theorem dX8_begin_48 : decode cX8_begin 48 = .ok (.imul, 1) := by decide +kernel
theorem dX8_begin_49 : decode cX8_begin 49 = .ok (.iload_n 2, 1) := by decide +kernel
theorem dX8_begin_50 : decode cX8_begin 50 = .ok (.iadd, 1) := by decide +kernel
theorem dX8_begin_51 : decode cX8_begin 51 = .ok (.iload_n 3, 1) := by decide +kernel
theorem dX8_begin_52 : decode cX8_begin 52 = .ok (.iastore, 1) := by decide +kernel
theorem dX8_begin_53 : decode cX8_begin 53 = .ok (.iload 4, 2) := by decide +kernel
theorem dX8_begin_55 : decode cX8_begin 55 = .ok (.ireturn, 1) := by decide +kernel
theorem dX8_go_0 : decode cX8_go 0 = .ok (.aload_n 0, 1) := by decide +kernel
theorem dX8_go_1 : decode cX8_go 1 = .ok (.iload_n 1, 1) := by decide +kernel
theorem dX8_go_2 : decode cX8_go 2 = .ok (.invokevirtual 105, 3) := by decide +kernel
theorem dX8_go_5 : decode cX8_go 5 = .ok (.ifCond .eq 31, 3) := by decide +kernel
theorem dX8_go_8 : decode cX8_go 8 = .ok (.aload_n 0, 1) := by decide +kernel
theorem dX8_go_9 : decode cX8_go 9 = .ok (.iload_n 1, 1) := by decide +kernel
theorem dX8_go_10 : decode cX8_go 10 = .ok (.iload_n 2, 1) := by decide +kernel
theorem dX8_go_11 : decode cX8_go 11 = .ok (.invokevirtual 109, 3) := by decide +kernel
theorem dX8_go_14 : decode cX8_go 14 = .ok (.ifCond .eq 22, 3) := by decide +kernel
theorem dX8_go_17 : decode cX8_go 17 = .ok (.aload_n 0, 1) := by decide +kernel
theorem dX8_go_18 : decode cX8_go 18 = .ok (.iload_n 1, 1) := by decide +kernel
theorem dX8_go_19 : decode cX8_go 19 = .ok (.iload_n 3, 1) := by decide +kernel
theorem dX8_go_20 : decode cX8_go 20 = .ok (.invokevirtual 109, 3) := by decide +kernel
theorem dX8_go_23 : decode cX8_go 23 = .ok (.ifCond .eq 13, 3) := by decide +kernel
theorem dX8_go_26 : decode cX8_go 26 = .ok (.aload_n 0, 1) := by decide +kernel
theorem dX8_go_27 : decode cX8_go 27 = .ok (.iload_n 1, 1) := by decide +kernel
theorem dX8_go_28 : decode cX8_go 28 = .ok (.iload 4, 2) := by decide +kernel
theorem dX8_go_30 : decode cX8_go 30 = .ok (.invokevirtual 113, 3) := by decide +kernel
theorem dX8_go_33 : decode cX8_go 33 = .ok (.ifCond .ne 5, 3) := by decide +kernel
theorem dX8_go_36 : decode cX8_go 36 = .ok (.iconst (-1), 1) := by decide +kernel
theorem dX8_go_37 : decode cX8_go 37 = .ok (.ireturn, 1) := by decide +kernel
theorem dX8_go_38 : decode cX8_go 38 = .ok (.aload_n 0, 1) := by decide +kernel
theorem dX8_go_39 : decode cX8_go 39 = .ok (.iload_n 1, 1) := by decide +kernel
theorem dX8_go_40 : decode cX8_go 40 = .ok (.iload_n 2, 1) := by decide +kernel
theorem dX8_go_41 : decode cX8_go 41 = .ok (.iload_n 3, 1) := by decide +kernel
theorem dX8_go_42 : decode cX8_go 42 = .ok (.invokevirtual 116, 3) := by decide +kernel
theorem dX8_go_45 : decode cX8_go 45 = .ok (.istore 5, 2) := by decide +kernel
theorem dX8_go_47 : decode cX8_go 47 = .ok (.aload_n 0, 1) := by decide +kernel
theorem dX8_go_48 : decode cX8_go 48 = .ok (.getfield 22, 3) := by decide +kernel
theorem dX8_go_51 : decode cX8_go 51 = .ok (.iload_n 1, 1) := by decide +kernel
theorem dX8_go_52 : decode cX8_go 52 = .ok (.bipush 8, 2) := by decide +kernel
theorem dX8_go_54 : decode cX8_go 54 = .ok (.imul, 1) := by decide +kernel
theorem dX8_go_55 : decode cX8_go 55 = .ok (.iload_n 2, 1) := by decide +kernel
theorem dX8_go_56 : decode cX8_go 56 = .ok (.iadd, 1) := by decide +kernel
theorem dX8_go_57 : decode cX8_go 57 = .ok (.bipush 8, 2) := by decide +kernel
theorem dX8_go_59 : decode cX8_go 59 = .ok (.imul, 1) := by decide +kernel
theorem dX8_go_60 : decode cX8_go 60 = .ok (.iload_n 3, 1) := by decide +kernel
theorem dX8_go_61 : decode cX8_go 61 = .ok (.iadd, 1) := by decide +kernel
theorem dX8_go_62 : decode cX8_go 62 = .ok (.iload 4, 2) := by decide +kernel
theorem dX8_go_64 : decode cX8_go 64 = .ok (.iastore, 1) := by decide +kernel
theorem dX8_go_65 : decode cX8_go 65 = .ok (.iload 5, 2) := by decide +kernel
theorem dX8_go_67 : decode cX8_go 67 = .ok (.ireturn, 1) := by decide +kernel
theorem dX8_show_0 : decode cX8_show 0 = .ok (.aload_n 0, 1) := by decide +kernel
theorem dX8_show_1 : decode cX8_show 1 = .ok (.iload_n 1, 1) := by decide +kernel
theorem dX8_show_2 : decode cX8_show 2 = .ok (.invokevirtual 105, 3) := by decide +kernel
theorem dX8_show_5 : decode cX8_show 5 = .ok (.ifCond .eq 36, 3) := by decide +kernel
theorem dX8_show_8 : decode cX8_show 8 = .ok (.aload_n 0, 1) := by decide +kernel
theorem dX8_show_9 : decode cX8_show 9 = .ok (.iload_n 1, 1) := by decide +kernel
theorem dX8_show_10 : decode cX8_show 10 = .ok (.iload_n 2, 1) := by decide +kernel
theorem dX8_show_11 : decode cX8_show 11 = .ok (.invokevirtual 109, 3) := by decide +kernel
theorem dX8_show_14 : decode cX8_show 14 = .ok (.ifCond .eq 27, 3) := by decide +kernel
theorem dX8_show_17 : decode cX8_show 17 = .ok (.iload_n 3, 1) := by decide +kernel
theorem dX8_show_18 : decode cX8_show 18 = .ok (.ifCond .lt 23, 3) := by decide +kernel
theorem dX8_show_21 : decode cX8_show 21 = .ok (.iload_n 3, 1) := by decide +kernel
theorem dX8_show_22 : decode cX8_show 22 = .ok (.aload_n 0, 1) := by decide +kernel
theorem dX8_show_23 : decode cX8_show 23 = .ok (.getfield 13, 3) := by decide +kernel
theorem dX8_show_26 : decode cX8_show 26 = .ok (.iload_n 1, 1) := by decide +kernel
theorem dX8_show_27 : decode cX8_show 27 = .ok (.iaload, 1) := by decide +kernel
theorem dX8_show_28 : decode cX8_show 28 = .ok (.if_icmp .ge 13, 3) := by decide +kernel
theorem dX8_show_31 : decode cX8_show 31 = .ok (.aload_n 0, 1) := by decide +kernel
theorem dX8_show_32 : decode cX8_show 32 = .ok (.iload_n 1, 1) := by decide +kernel
theorem dX8_show_33 : decode cX8_show 33 = .ok (.iload 4, 2) := by decide +kernel
theorem dX8_show_35 : decode cX8_show 35 = .ok (.invokevirtual 113, 3) := by decide +kernel
theorem dX8_show_38 : decode cX8_show 38 = .ok (.ifCond .ne 5, 3) := by decide +kernel
theorem dX8_show_41 : decode cX8_show 41 = .ok (.iconst (-1), 1) := by decide +kernel
theorem dX8_show_42 : decode cX8_show 42 = .ok (.ireturn, 1) := by decide +kernel
theorem dX8_show_43 : decode cX8_show 43 = .ok (.aload_n 0, 1) := by decide +kernel
theorem dX8_show_44 : decode cX8_show 44 = .ok (.iload_n 1, 1) := by decide +kernel
theorem dX8_show_45 : decode cX8_show 45 = .ok (.iload_n 2, 1) := by decide +kernel
theorem dX8_show_46 : decode cX8_show 46 = .ok (.iload_n 3, 1) := by decide +kernel
theorem dX8_show_47 : decode cX8_show 47 = .ok (.invokevirtual 120, 3) := by decide +kernel
theorem dX8_show_50 : decode cX8_show 50 = .ok (.istore 5, 2) := by decide +kernel
theorem dX8_show_52 : decode cX8_show 52 = .ok (.aload_n 0, 1) := by decide +kernel
theorem dX8_show_53 : decode cX8_show 53 = .ok (.getfield 25, 3) := by decide +kernel
theorem dX8_show_56 : decode cX8_show 56 = .ok (.iload_n 1, 1) := by decide +kernel
theorem dX8_show_57 : decode cX8_show 57 = .ok (.bipush 8, 2) := by decide +kernel
theorem dX8_show_59 : decode cX8_show 59 = .ok (.imul, 1) := by decide +kernel
theorem dX8_show_60 : decode cX8_show 60 = .ok (.iload_n 2, 1) := by decide +kernel
theorem dX8_show_61 : decode cX8_show 61 = .ok (.iadd, 1) := by decide +kernel
theorem dX8_show_62 : decode cX8_show 62 = .ok (.bipush 6, 2) := by decide +kernel
theorem dX8_show_64 : decode cX8_show 64 = .ok (.imul, 1) := by decide +kernel
theorem dX8_show_65 : decode cX8_show 65 = .ok (.iload_n 3, 1) := by decide +kernel
theorem dX8_show_66 : decode cX8_show 66 = .ok (.iadd, 1) := by decide +kernel
theorem dX8_show_67 : decode cX8_show 67 = .ok (.iload 4, 2) := by decide +kernel
theorem dX8_show_69 : decode cX8_show 69 = .ok (.iastore, 1) := by decide +kernel
theorem dX8_show_70 : decode cX8_show 70 = .ok (.iload 5, 2) := by decide +kernel
theorem dX8_show_72 : decode cX8_show 72 = .ok (.ireturn, 1) := by decide +kernel
theorem dX8_isSound_0 : decode cX8_isSound 0 = .ok (.iconst 0, 1) := by decide +kernel
theorem dX8_isSound_1 : decode cX8_isSound 1 = .ok (.istore_n 2, 1) := by decide +kernel
theorem dX8_isSound_2 : decode cX8_isSound 2 = .ok (.iconst 0, 1) := by decide +kernel
theorem dX8_isSound_3 : decode cX8_isSound 3 = .ok (.istore_n 3, 1) := by decide +kernel
theorem dX8_isSound_4 : decode cX8_isSound 4 = .ok (.iload_n 3, 1) := by decide +kernel
theorem dX8_isSound_5 : decode cX8_isSound 5 = .ok (.aload_n 0, 1) := by decide +kernel
theorem dX8_isSound_6 : decode cX8_isSound 6 = .ok (.getfield 9, 3) := by decide +kernel
theorem dX8_isSound_9 : decode cX8_isSound 9 = .ok (.iload_n 1, 1) := by decide +kernel
theorem dX8_isSound_10 : decode cX8_isSound 10 = .ok (.iaload, 1) := by decide +kernel
theorem dX8_isSound_11 : decode cX8_isSound 11 = .ok (.if_icmp .ge 119, 3) := by decide +kernel
theorem dX8_isSound_14 : decode cX8_isSound 14 = .ok (.iload_n 2, 1) := by decide +kernel
theorem dX8_isSound_15 : decode cX8_isSound 15 = .ok (.aload_n 0, 1) := by decide +kernel
theorem dX8_isSound_16 : decode cX8_isSound 16 = .ok (.getfield 19, 3) := by decide +kernel
theorem dX8_isSound_19 : decode cX8_isSound 19 = .ok (.iload_n 1, 1) := by decide +kernel
theorem dX8_isSound_20 : decode cX8_isSound 20 = .ok (.bipush 8, 2) := by decide +kernel
theorem dX8_isSound_22 : decode cX8_isSound 22 = .ok (.imul, 1) := by decide +kernel
theorem dX8_isSound_23 : decode cX8_isSound 23 = .ok (.iload_n 3, 1) := by decide +kernel
theorem dX8_isSound_24 : decode cX8_isSound 24 = .ok (.iadd, 1) := by decide +kernel
theorem dX8_isSound_25 : decode cX8_isSound 25 = .ok (.iaload, 1) := by decide +kernel
theorem dX8_isSound_26 : decode cX8_isSound 26 = .ok (.iadd, 1) := by decide +kernel
theorem dX8_isSound_27 : decode cX8_isSound 27 = .ok (.istore_n 2, 1) := by decide +kernel
theorem dX8_isSound_28 : decode cX8_isSound 28 = .ok (.iconst 0, 1) := by decide +kernel
theorem dX8_isSound_29 : decode cX8_isSound 29 = .ok (.istore 4, 2) := by decide +kernel
theorem dX8_isSound_31 : decode cX8_isSound 31 = .ok (.iconst 0, 1) := by decide +kernel
theorem dX8_isSound_32 : decode cX8_isSound 32 = .ok (.istore 5, 2) := by decide +kernel
theorem dX8_isSound_34 : decode cX8_isSound 34 = .ok (.iconst 0, 1) := by decide +kernel
theorem dX8_isSound_35 : decode cX8_isSound 35 = .ok (.istore 6, 2) := by decide +kernel
theorem dX8_isSound_37 : decode cX8_isSound 37 = .ok (.iload 6, 2) := by decide +kernel
theorem dX8_isSound_39 : decode cX8_isSound 39 = .ok (.aload_n 0, 1) := by decide +kernel
theorem dX8_isSound_40 : decode cX8_isSound 40 = .ok (.getfield 9, 3) := by decide +kernel
theorem dX8_isSound_43 : decode cX8_isSound 43 = .ok (.iload_n 1, 1) := by decide +kernel
theorem dX8_isSound_44 : decode cX8_isSound 44 = .ok (.iaload, 1) := by decide +kernel
theorem dX8_isSound_45 : decode cX8_isSound 45 = .ok (.if_icmp .ge 22, 3) := by decide +kernel
theorem dX8_isSound_48 : decode cX8_isSound 48 = .ok (.iload 4, 2) := by decide +kernel
theorem dX8_isSound_50 : decode cX8_isSound 50 = .ok (.aload_n 0, 1) := by decide +kernel
theorem dX8_isSound_51 : decode cX8_isSound 51 = .ok (.iload_n 1, 1) := by decide +kernel
theorem dX8_isSound_52 : decode cX8_isSound 52 = .ok (.iload_n 3, 1) := by decide +kernel
theorem dX8_isSound_53 : decode cX8_isSound 53 = .ok (.iload 6, 2) := by decide +kernel
theorem dX8_isSound_55 : decode cX8_isSound 55 = .ok (.invokevirtual 116, 3) := by decide +kernel
theorem dX8_isSound_58 : decode cX8_isSound 58 = .ok (.iadd, 1) := by decide +kernel
theorem dX8_isSound_59 : decode cX8_isSound 59 = .ok (.istore 4, 2) := by decide +kernel
theorem dX8_isSound_61 : decode cX8_isSound 61 = .ok (.iinc 6 1, 3) := by decide +kernel
theorem dX8_isSound_64 : decode cX8_isSound 64 = .ok (.goto (-27), 3) := by decide +kernel
theorem dX8_isSound_67 : decode cX8_isSound 67 = .ok (.iconst 0, 1) := by decide +kernel
theorem dX8_isSound_68 : decode cX8_isSound 68 = .ok (.istore 6, 2) := by decide +kernel
theorem dX8_isSound_70 : decode cX8_isSound 70 = .ok (.iload 6, 2) := by decide +kernel
theorem dX8_isSound_72 : decode cX8_isSound 72 = .ok (.aload_n 0, 1) := by decide +kernel
theorem dX8_isSound_73 : decode cX8_isSound 73 = .ok (.getfield 13, 3) := by decide +kernel
theorem dX8_isSound_76 : decode cX8_isSound 76 = .ok (.iload_n 1, 1) := by decide +kernel
theorem dX8_isSound_77 : decode cX8_isSound 77 = .ok (.iaload, 1) := by decide +kernel
theorem dX8_isSound_78 : decode cX8_isSound 78 = .ok (.if_icmp .ge 22, 3) := by decide +kernel
theorem dX8_isSound_81 : decode cX8_isSound 81 = .ok (.iload 5, 2) := by decide +kernel
theorem dX8_isSound_83 : decode cX8_isSound 83 = .ok (.aload_n 0, 1) := by decide +kernel
theorem dX8_isSound_84 : decode cX8_isSound 84 = .ok (.iload_n 1, 1) := by decide +kernel
theorem dX8_isSound_85 : decode cX8_isSound 85 = .ok (.iload_n 3, 1) := by decide +kernel
theorem dX8_isSound_86 : decode cX8_isSound 86 = .ok (.iload 6, 2) := by decide +kernel
theorem dX8_isSound_88 : decode cX8_isSound 88 = .ok (.invokevirtual 120, 3) := by decide +kernel
theorem dX8_isSound_91 : decode cX8_isSound 91 = .ok (.iadd, 1) := by decide +kernel
theorem dX8_isSound_92 : decode cX8_isSound 92 = .ok (.istore 5, 2) := by decide +kernel
theorem dX8_isSound_94 : decode cX8_isSound 94 = .ok (.iinc 6 1, 3) := by decide +kernel
theorem dX8_isSound_97 : decode cX8_isSound 97 = .ok (.goto (-27), 3) := by decide +kernel
theorem dX8_isSound_100 : decode cX8_isSound 100 = .ok (.iload 4, 2) := by decide +kernel
theorem dX8_isSound_102 : decode cX8_isSound 102 = .ok (.aload_n 0, 1) := by decide +kernel
theorem dX8_isSound_103 : decode cX8_isSound 103 = .ok (.getfield 16, 3) := by decide +kernel
theorem dX8_isSound_106 : decode cX8_isSound 106 = .ok (.iload_n 1, 1) := by decide +kernel
theorem dX8_isSound_107 : decode cX8_isSound 107 = .ok (.iaload, 1) := by decide +kernel
theorem dX8_isSound_108 : decode cX8_isSound 108 = .ok (.if_icmp .ne 14, 3) := by decide +kernel
theorem dX8_isSound_111 : decode cX8_isSound 111 = .ok (.iload 5, 2) := by decide +kernel
theorem dX8_isSound_113 : decode cX8_isSound 113 = .ok (.aload_n 0, 1) := by decide +kernel
theorem dX8_isSound_114 : decode cX8_isSound 114 = .ok (.getfield 16, 3) := by decide +kernel
theorem dX8_isSound_117 : decode cX8_isSound 117 = .ok (.iload_n 1, 1) := by decide +kernel
theorem dX8_isSound_118 : decode cX8_isSound 118 = .ok (.iaload, 1) := by decide +kernel
theorem dX8_isSound_119 : decode cX8_isSound 119 = .ok (.if_icmp .eq 5, 3) := by decide +kernel
theorem dX8_isSound_122 : decode cX8_isSound 122 = .ok (.iconst 0, 1) := by decide +kernel
theorem dX8_isSound_123 : decode cX8_isSound 123 = .ok (.ireturn, 1) := by decide +kernel
theorem dX8_isSound_124 : decode cX8_isSound 124 = .ok (.iinc 3 1, 3) := by decide +kernel
theorem dX8_isSound_127 : decode cX8_isSound 127 = .ok (.goto (-123), 3) := by decide +kernel
theorem dX8_isSound_130 : decode cX8_isSound 130 = .ok (.iload_n 2, 1) := by decide +kernel
theorem dX8_isSound_131 : decode cX8_isSound 131 = .ok (.aload_n 0, 1) := by decide +kernel
theorem dX8_isSound_132 : decode cX8_isSound 132 = .ok (.getfield 16, 3) := by decide +kernel
theorem dX8_isSound_135 : decode cX8_isSound 135 = .ok (.iload_n 1, 1) := by decide +kernel
theorem dX8_isSound_136 : decode cX8_isSound 136 = .ok (.iaload, 1) := by decide +kernel
theorem dX8_isSound_137 : decode cX8_isSound 137 = .ok (.if_icmp .ne 7, 3) := by decide +kernel
theorem dX8_isSound_140 : decode cX8_isSound 140 = .ok (.iconst 1, 1) := by decide +kernel
theorem dX8_isSound_141 : decode cX8_isSound 141 = .ok (.goto 4, 3) := by decide +kernel
theorem dX8_isSound_144 : decode cX8_isSound 144 = .ok (.iconst 0, 1) := by decide +kernel
theorem dX8_isSound_145 : decode cX8_isSound 145 = .ok (.ireturn, 1) := by decide +kernel
theorem dX8_sound_0 : decode cX8_sound 0 = .ok (.aload_n 0, 1) := by decide +kernel
theorem dX8_sound_1 : decode cX8_sound 1 = .ok (.iload_n 1, 1) := by decide +kernel
theorem dX8_sound_2 : decode cX8_sound 2 = .ok (.invokevirtual 105, 3) := by decide +kernel
theorem dX8_sound_5 : decode cX8_sound 5 = .ok (.ifCond .eq 19, 3) := by decide +kernel
theorem dX8_sound_8 : decode cX8_sound 8 = .ok (.aload_n 0, 1) := by decide +kernel
theorem dX8_sound_9 : decode cX8_sound 9 = .ok (.iload_n 1, 1) := by decide +kernel
theorem dX8_sound_10 : decode cX8_sound 10 = .ok (.invokevirtual 123, 3) := by decide +kernel
theorem dX8_sound_13 : decode cX8_sound 13 = .ok (.ifCond .eq 7, 3) := by decide +kernel
theorem dX8_sound_16 : decode cX8_sound 16 = .ok (.iconst 1, 1) := by decide +kernel
theorem dX8_sound_17 : decode cX8_sound 17 = .ok (.goto 8, 3) := by decide +kernel
theorem dX8_sound_20 : decode cX8_sound 20 = .ok (.iconst 0, 1) := by decide +kernel
theorem dX8_sound_21 : decode cX8_sound 21 = .ok (.goto 4, 3) := by decide +kernel
theorem dX8_sound_24 : decode cX8_sound 24 = .ok (.iconst (-1), 1) := by decide +kernel
theorem dX8_sound_25 : decode cX8_sound 25 = .ok (.ireturn, 1) := by decide +kernel
theorem dX8_told_0 : decode cX8_told 0 = .ok (.aload_n 0, 1) := by decide +kernel
theorem dX8_told_1 : decode cX8_told 1 = .ok (.iload_n 1, 1) := by decide +kernel
theorem dX8_told_2 : decode cX8_told 2 = .ok (.invokevirtual 105, 3) := by decide +kernel
theorem dX8_told_5 : decode cX8_told 5 = .ok (.ifCond .eq 12, 3) := by decide +kernel
theorem dX8_told_8 : decode cX8_told 8 = .ok (.iload_n 2, 1) := by decide +kernel
theorem dX8_told_9 : decode cX8_told 9 = .ok (.ifCond .lt 8, 3) := by decide +kernel
theorem dX8_told_12 : decode cX8_told 12 = .ok (.iload_n 2, 1) := by decide +kernel
theorem dX8_told_13 : decode cX8_told 13 = .ok (.iconst 2, 1) := by decide +kernel
theorem dX8_told_14 : decode cX8_told 14 = .ok (.if_icmp .le 5, 3) := by decide +kernel
theorem dX8_told_17 : decode cX8_told 17 = .ok (.iconst (-1), 1) := by decide +kernel
theorem dX8_told_18 : decode cX8_told 18 = .ok (.ireturn, 1) := by decide +kernel
theorem dX8_told_19 : decode cX8_told 19 = .ok (.iload_n 2, 1) := by decide +kernel
theorem dX8_told_20 : decode cX8_told 20 = .ok (.ifCond .ne 12, 3) := by decide +kernel
theorem dX8_told_23 : decode cX8_told 23 = .ok (.aload_n 0, 1) := by decide +kernel
theorem dX8_told_24 : decode cX8_told 24 = .ok (.getfield 9, 3) := by decide +kernel
theorem dX8_told_27 : decode cX8_told 27 = .ok (.iload_n 1, 1) := by decide +kernel
theorem dX8_told_28 : decode cX8_told 28 = .ok (.iaload, 1) := by decide +kernel
theorem dX8_told_29 : decode cX8_told 29 = .ok (.goto 23, 3) := by decide +kernel
theorem dX8_told_32 : decode cX8_told 32 = .ok (.iload_n 2, 1) := by decide +kernel
theorem dX8_told_33 : decode cX8_told 33 = .ok (.iconst 1, 1) := by decide +kernel
theorem dX8_told_34 : decode cX8_told 34 = .ok (.if_icmp .ne 12, 3) := by decide +kernel
theorem dX8_told_37 : decode cX8_told 37 = .ok (.aload_n 0, 1) := by decide +kernel
theorem dX8_told_38 : decode cX8_told 38 = .ok (.getfield 13, 3) := by decide +kernel
theorem dX8_told_41 : decode cX8_told 41 = .ok (.iload_n 1, 1) := by decide +kernel
theorem dX8_told_42 : decode cX8_told 42 = .ok (.iaload, 1) := by decide +kernel
theorem dX8_told_43 : decode cX8_told 43 = .ok (.goto 9, 3) := by decide +kernel
theorem dX8_told_46 : decode cX8_told 46 = .ok (.aload_n 0, 1) := by decide +kernel
theorem dX8_told_47 : decode cX8_told 47 = .ok (.getfield 16, 3) := by decide +kernel
theorem dX8_told_50 : decode cX8_told 50 = .ok (.iload_n 1, 1) := by decide +kernel
theorem dX8_told_51 : decode cX8_told 51 = .ok (.iaload, 1) := by decide +kernel
theorem dX8_told_52 : decode cX8_told 52 = .ok (.ireturn, 1) := by decide +kernel
theorem dX8_sign_0 : decode cX8_sign 0 = .ok (.iload_n 1, 1) := by decide +kernel
theorem dX8_sign_1 : decode cX8_sign 1 = .ok (.iconst (-1), 1) := by decide +kernel
theorem dX8_sign_2 : decode cX8_sign 2 = .ok (.if_icmp .lt 9, 3) := by decide +kernel
theorem dX8_sign_5 : decode cX8_sign 5 = .ok (.iload_n 1, 1) := by decide +kernel
theorem dX8_sign_6 : decode cX8_sign 6 = .ok (.bipush 6, 2) := by decide +kernel
theorem dX8_sign_8 : decode cX8_sign 8 = .ok (.if_icmp .lt 5, 3) := by decide +kernel
theorem dX8_sign_11 : decode cX8_sign 11 = .ok (.iconst (-1), 1) := by decide +kernel
theorem dX8_sign_12 : decode cX8_sign 12 = .ok (.ireturn, 1) := by decide +kernel
theorem dX8_sign_13 : decode cX8_sign 13 = .ok (.aload_n 0, 1) := by decide +kernel
theorem dX8_sign_14 : decode cX8_sign 14 = .ok (.getfield 126, 3) := by decide +kernel
theorem dX8_sign_17 : decode cX8_sign 17 = .ok (.bipush 60, 2) := by decide +kernel
theorem dX8_sign_19 : decode cX8_sign 19 = .ok (.if_icmp .ne 6, 3) := by decide +kernel
theorem dX8_sign_22 : decode cX8_sign 22 = .ok (.bipush (-6), 2) := by decide +kernel
theorem dX8_sign_24 : decode cX8_sign 24 = .ok (.ireturn, 1) := by decide +kernel
theorem dX8_sign_25 : decode cX8_sign 25 = .ok (.aload_n 0, 1) := by decide +kernel
theorem dX8_sign_26 : decode cX8_sign 26 = .ok (.getfield 28, 3) := by decide +kernel
theorem dX8_sign_29 : decode cX8_sign 29 = .ok (.aload_n 0, 1) := by decide +kernel
theorem dX8_sign_30 : decode cX8_sign 30 = .ok (.getfield 126, 3) := by decide +kernel
theorem dX8_sign_33 : decode cX8_sign 33 = .ok (.iload_n 1, 1) := by decide +kernel
theorem dX8_sign_34 : decode cX8_sign 34 = .ok (.iastore, 1) := by decide +kernel
theorem dX8_sign_35 : decode cX8_sign 35 = .ok (.aload_n 0, 1) := by decide +kernel
theorem dX8_sign_36 : decode cX8_sign 36 = .ok (.dup, 1) := by decide +kernel
theorem dX8_sign_37 : decode cX8_sign 37 = .ok (.getfield 126, 3) := by decide +kernel
theorem dX8_sign_40 : decode cX8_sign 40 = .ok (.iconst 1, 1) := by decide +kernel
theorem dX8_sign_41 : decode cX8_sign 41 = .ok (.iadd, 1) := by decide +kernel
theorem dX8_sign_42 : decode cX8_sign 42 = .ok (.putfield 126, 3) := by decide +kernel
theorem dX8_sign_45 : decode cX8_sign 45 = .ok (.aload_n 0, 1) := by decide +kernel
theorem dX8_sign_46 : decode cX8_sign 46 = .ok (.getfield 126, 3) := by decide +kernel
theorem dX8_sign_49 : decode cX8_sign 49 = .ok (.ireturn, 1) := by decide +kernel
theorem dX8_cut_0 : decode cX8_cut 0 = .ok (.iload_n 1, 1) := by decide +kernel
theorem dX8_cut_1 : decode cX8_cut 1 = .ok (.ifCond .lt 11, 3) := by decide +kernel
theorem dX8_cut_4 : decode cX8_cut 4 = .ok (.iload_n 1, 1) := by decide +kernel
theorem dX8_cut_5 : decode cX8_cut 5 = .ok (.aload_n 0, 1) := by decide +kernel
theorem dX8_cut_6 : decode cX8_cut 6 = .ok (.getfield 126, 3) := by decide +kernel
theorem dX8_cut_9 : decode cX8_cut 9 = .ok (.if_icmp .le 5, 3) := by decide +kernel
theorem dX8_cut_12 : decode cX8_cut 12 = .ok (.iconst (-1), 1) := by decide +kernel
theorem dX8_cut_13 : decode cX8_cut 13 = .ok (.ireturn, 1) := by decide +kernel
theorem dX8_cut_14 : decode cX8_cut 14 = .ok (.aload_n 0, 1) := by decide +kernel
theorem dX8_cut_15 : decode cX8_cut 15 = .ok (.iload_n 1, 1) := by decide +kernel
theorem dX8_cut_16 : decode cX8_cut 16 = .ok (.putfield 126, 3) := by decide +kernel
theorem dX8_cut_19 : decode cX8_cut 19 = .ok (.iload_n 1, 1) := by decide +kernel
theorem dX8_cut_20 : decode cX8_cut 20 = .ok (.ireturn, 1) := by decide +kernel
theorem dX8_at_0 : decode cX8_at 0 = .ok (.iload_n 1, 1) := by decide +kernel
theorem dX8_at_1 : decode cX8_at 1 = .ok (.ifCond .lt 20, 3) := by decide +kernel
theorem dX8_at_4 : decode cX8_at 4 = .ok (.iload_n 1, 1) := by decide +kernel
theorem dX8_at_5 : decode cX8_at 5 = .ok (.aload_n 0, 1) := by decide +kernel
theorem dX8_at_6 : decode cX8_at 6 = .ok (.getfield 126, 3) := by decide +kernel
theorem dX8_at_9 : decode cX8_at 9 = .ok (.if_icmp .ge 12, 3) := by decide +kernel
theorem dX8_at_12 : decode cX8_at 12 = .ok (.aload_n 0, 1) := by decide +kernel
theorem dX8_at_13 : decode cX8_at 13 = .ok (.getfield 28, 3) := by decide +kernel
theorem dX8_at_16 : decode cX8_at 16 = .ok (.iload_n 1, 1) := by decide +kernel
theorem dX8_at_17 : decode cX8_at 17 = .ok (.iaload, 1) := by decide +kernel
theorem dX8_at_18 : decode cX8_at 18 = .ok (.goto 5, 3) := by decide +kernel
theorem dX8_at_21 : decode cX8_at 21 = .ok (.bipush (-2), 2) := by decide +kernel
theorem dX8_at_23 : decode cX8_at 23 = .ok (.ireturn, 1) := by decide +kernel
theorem dX8_fits_0 : decode cX8_fits 0 = .ok (.iconst 1, 1) := by decide +kernel
theorem dX8_fits_1 : decode cX8_fits 1 = .ok (.istore_n 2, 1) := by decide +kernel
theorem dX8_fits_2 : decode cX8_fits 2 = .ok (.iconst 0, 1) := by decide +kernel
theorem dX8_fits_3 : decode cX8_fits 3 = .ok (.istore_n 3, 1) := by decide +kernel
theorem dX8_fits_4 : decode cX8_fits 4 = .ok (.iload_n 3, 1) := by decide +kernel
theorem dX8_fits_5 : decode cX8_fits 5 = .ok (.aload_n 0, 1) := by decide +kernel
theorem dX8_fits_6 : decode cX8_fits 6 = .ok (.getfield 126, 3) := by decide +kernel
theorem dX8_fits_9 : decode cX8_fits 9 = .ok (.if_icmp .ge 34, 3) := by decide +kernel
theorem dX8_fits_12 : decode cX8_fits 12 = .ok (.iload_n 2, 1) := by decide +kernel
theorem dX8_fits_13 : decode cX8_fits 13 = .ok (.ifCond .eq 22, 3) := by decide +kernel
theorem dX8_fits_16 : decode cX8_fits 16 = .ok (.aload_n 0, 1) := by decide +kernel
theorem dX8_fits_17 : decode cX8_fits 17 = .ok (.getfield 28, 3) := by decide +kernel
theorem dX8_fits_20 : decode cX8_fits 20 = .ok (.iload_n 3, 1) := by decide +kernel
theorem dX8_fits_21 : decode cX8_fits 21 = .ok (.iaload, 1) := by decide +kernel
theorem dX8_fits_22 : decode cX8_fits 22 = .ok (.aload_n 0, 1) := by decide +kernel
theorem dX8_fits_23 : decode cX8_fits 23 = .ok (.getfield 13, 3) := by decide +kernel
theorem dX8_fits_26 : decode cX8_fits 26 = .ok (.iload_n 1, 1) := by decide +kernel
theorem dX8_fits_27 : decode cX8_fits 27 = .ok (.iaload, 1) := by decide +kernel
theorem dX8_fits_28 : decode cX8_fits 28 = .ok (.if_icmp .ge 7, 3) := by decide +kernel
theorem dX8_fits_31 : decode cX8_fits 31 = .ok (.iconst 1, 1) := by decide +kernel
theorem dX8_fits_32 : decode cX8_fits 32 = .ok (.goto 4, 3) := by decide +kernel
theorem dX8_fits_35 : decode cX8_fits 35 = .ok (.iconst 0, 1) := by decide +kernel
theorem dX8_fits_36 : decode cX8_fits 36 = .ok (.istore_n 2, 1) := by decide +kernel
theorem dX8_fits_37 : decode cX8_fits 37 = .ok (.iinc 3 1, 3) := by decide +kernel
theorem dX8_fits_40 : decode cX8_fits 40 = .ok (.goto (-36), 3) := by decide +kernel
theorem dX8_fits_43 : decode cX8_fits 43 = .ok (.iload_n 2, 1) := by decide +kernel
theorem dX8_fits_44 : decode cX8_fits 44 = .ok (.ireturn, 1) := by decide +kernel
theorem dX8_refusal_0 : decode cX8_refusal 0 = .ok (.aload_n 0, 1) := by decide +kernel
theorem dX8_refusal_1 : decode cX8_refusal 1 = .ok (.getfield 126, 3) := by decide +kernel
theorem dX8_refusal_4 : decode cX8_refusal 4 = .ok (.ifCond .ne 8, 3) := by decide +kernel
theorem dX8_refusal_7 : decode cX8_refusal 7 = .ok (.bipush (-2), 2) := by decide +kernel
theorem dX8_refusal_9 : decode cX8_refusal 9 = .ok (.goto 30, 3) := by decide +kernel
theorem dX8_refusal_12 : decode cX8_refusal 12 = .ok (.aload_n 0, 1) := by decide +kernel
theorem dX8_refusal_13 : decode cX8_refusal 13 = .ok (.iload_n 1, 1) := by decide +kernel
theorem dX8_refusal_14 : decode cX8_refusal 14 = .ok (.invokevirtual 123, 3) := by decide +kernel
theorem dX8_refusal_17 : decode cX8_refusal 17 = .ok (.ifCond .ne 8, 3) := by decide +kernel
theorem dX8_refusal_20 : decode cX8_refusal 20 = .ok (.bipush (-3), 2) := by decide +kernel
theorem dX8_refusal_22 : decode cX8_refusal 22 = .ok (.goto 17, 3) := by decide +kernel
theorem dX8_refusal_25 : decode cX8_refusal 25 = .ok (.aload_n 0, 1) := by decide +kernel
theorem dX8_refusal_26 : decode cX8_refusal 26 = .ok (.iload_n 1, 1) := by decide +kernel
theorem dX8_refusal_27 : decode cX8_refusal 27 = .ok (.invokevirtual 129, 3) := by decide +kernel
theorem dX8_refusal_30 : decode cX8_refusal 30 = .ok (.ifCond .ne 8, 3) := by decide +kernel
theorem dX8_refusal_33 : decode cX8_refusal 33 = .ok (.bipush (-4), 2) := by decide +kernel
theorem dX8_refusal_35 : decode cX8_refusal 35 = .ok (.goto 4, 3) := by decide +kernel
theorem dX8_refusal_38 : decode cX8_refusal 38 = .ok (.iconst 0, 1) := by decide +kernel
theorem dX8_refusal_39 : decode cX8_refusal 39 = .ok (.ireturn, 1) := by decide +kernel
theorem dX8_addTimes_0 : decode cX8_addTimes 0 = .ok (.aload_n 0, 1) := by decide +kernel
theorem dX8_addTimes_1 : decode cX8_addTimes 1 = .ok (.getfield 98, 3) := by decide +kernel
theorem dX8_addTimes_4 : decode cX8_addTimes 4 = .ok (.iload_n 3, 1) := by decide +kernel
theorem dX8_addTimes_5 : decode cX8_addTimes 5 = .ok (.i2l, 1) := by decide +kernel
theorem dX8_addTimes_6 : decode cX8_addTimes 6 = .ok (.invokevirtual 132, 3) := by decide +kernel
theorem dX8_addTimes_9 : decode cX8_addTimes 9 = .ok (.aload_n 0, 1) := by decide +kernel
theorem dX8_addTimes_10 : decode cX8_addTimes 10 = .ok (.getfield 83, 3) := by decide +kernel
theorem dX8_addTimes_13 : decode cX8_addTimes 13 = .ok (.aload_n 2, 1) := by decide +kernel
theorem dX8_addTimes_14 : decode cX8_addTimes 14 = .ok (.aload_n 0, 1) := by decide +kernel
theorem dX8_addTimes_15 : decode cX8_addTimes 15 = .ok (.getfield 98, 3) := by decide +kernel
theorem dX8_addTimes_18 : decode cX8_addTimes 18 = .ok (.invokevirtual 136, 3) := by decide +kernel
theorem dX8_addTimes_21 : decode cX8_addTimes 21 = .ok (.aload_n 0, 1) := by decide +kernel
theorem dX8_addTimes_22 : decode cX8_addTimes 22 = .ok (.getfield 86, 3) := by decide +kernel
theorem dX8_addTimes_25 : decode cX8_addTimes 25 = .ok (.aload_n 1, 1) := by decide +kernel
theorem dX8_addTimes_26 : decode cX8_addTimes 26 = .ok (.aload_n 0, 1) := by decide +kernel
theorem dX8_addTimes_27 : decode cX8_addTimes 27 = .ok (.getfield 83, 3) := by decide +kernel
theorem dX8_addTimes_30 : decode cX8_addTimes 30 = .ok (.invokevirtual 140, 3) := by decide +kernel
theorem dX8_addTimes_33 : decode cX8_addTimes 33 = .ok (.aload_n 1, 1) := by decide +kernel
theorem dX8_addTimes_34 : decode cX8_addTimes 34 = .ok (.aload_n 0, 1) := by decide +kernel
theorem dX8_addTimes_35 : decode cX8_addTimes 35 = .ok (.getfield 86, 3) := by decide +kernel
theorem dX8_addTimes_38 : decode cX8_addTimes 38 = .ok (.invokevirtual 143, 3) := by decide +kernel
theorem dX8_addTimes_41 : decode cX8_addTimes 41 = .ok (.return_, 1) := by decide +kernel
theorem dX8_workBehind_0 : decode cX8_workBehind 0 = .ok (.aload_n 0, 1) := by decide +kernel
theorem dX8_workBehind_1 : decode cX8_workBehind 1 = .ok (.getfield 126, 3) := by decide +kernel
theorem dX8_workBehind_4 : decode cX8_workBehind 4 = .ok (.iconst 1, 1) := by decide +kernel
theorem dX8_workBehind_5 : decode cX8_workBehind 5 = .ok (.isub, 1) := by decide +kernel
theorem dX8_workBehind_6 : decode cX8_workBehind 6 = .ok (.istore_n 2, 1) := by decide +kernel
theorem dX8_workBehind_7 : decode cX8_workBehind 7 = .ok (.iload_n 2, 1) := by decide +kernel
theorem dX8_workBehind_8 : decode cX8_workBehind 8 = .ok (.ifCond .lt 135, 3) := by decide +kernel
theorem dX8_workBehind_11 : decode cX8_workBehind 11 = .ok (.iconst 0, 1) := by decide +kernel
theorem dX8_workBehind_12 : decode cX8_workBehind 12 = .ok (.istore_n 3, 1) := by decide +kernel
theorem dX8_workBehind_13 : decode cX8_workBehind 13 = .ok (.iload_n 3, 1) := by decide +kernel
theorem dX8_workBehind_14 : decode cX8_workBehind 14 = .ok (.aload_n 0, 1) := by decide +kernel
theorem dX8_workBehind_15 : decode cX8_workBehind 15 = .ok (.getfield 9, 3) := by decide +kernel
theorem dX8_workBehind_18 : decode cX8_workBehind 18 = .ok (.iload_n 1, 1) := by decide +kernel
theorem dX8_workBehind_19 : decode cX8_workBehind 19 = .ok (.iaload, 1) := by decide +kernel
theorem dX8_workBehind_20 : decode cX8_workBehind 20 = .ok (.if_icmp .ge 117, 3) := by decide +kernel
theorem dX8_workBehind_23 : decode cX8_workBehind 23 = .ok (.aload_n 0, 1) := by decide +kernel
theorem dX8_workBehind_24 : decode cX8_workBehind 24 = .ok (.getfield 44, 3) := by decide +kernel
theorem dX8_workBehind_27 : decode cX8_workBehind 27 = .ok (.iload_n 2, 1) := by decide +kernel
theorem dX8_workBehind_28 : decode cX8_workBehind 28 = .ok (.bipush 8, 2) := by decide +kernel
theorem dX8_workBehind_30 : decode cX8_workBehind 30 = .ok (.imul, 1) := by decide +kernel
theorem dX8_workBehind_31 : decode cX8_workBehind 31 = .ok (.iload_n 3, 1) := by decide +kernel
theorem dX8_workBehind_32 : decode cX8_workBehind 32 = .ok (.iadd, 1) := by decide +kernel
theorem dX8_workBehind_33 : decode cX8_workBehind 33 = .ok (.aaload, 1) := by decide +kernel
theorem dX8_workBehind_34 : decode cX8_workBehind 34 = .ok (.astore 4, 2) := by decide +kernel
theorem dX8_workBehind_36 : decode cX8_workBehind 36 = .ok (.aload 4, 2) := by decide +kernel
theorem dX8_workBehind_38 : decode cX8_workBehind 38 = .ok (.invokevirtual 147, 3) := by decide +kernel
theorem dX8_workBehind_41 : decode cX8_workBehind 41 = .ok (.iload_n 2, 1) := by decide +kernel
theorem dX8_workBehind_42 : decode cX8_workBehind 42 = .ok (.aload_n 0, 1) := by decide +kernel
theorem dX8_workBehind_43 : decode cX8_workBehind 43 = .ok (.getfield 126, 3) := by decide +kernel
theorem dX8_workBehind_46 : decode cX8_workBehind 46 = .ok (.iconst 1, 1) := by decide +kernel
theorem dX8_workBehind_47 : decode cX8_workBehind 47 = .ok (.isub, 1) := by decide +kernel
theorem dX8_workBehind_48 : decode cX8_workBehind 48 = .ok (.if_icmp .ne 9, 3) := by decide +kernel
theorem dX8_workBehind_51 : decode cX8_workBehind 51 = .ok (.aload 4, 2) := by decide +kernel
theorem dX8_workBehind_53 : decode cX8_workBehind 53 = .ok (.lconst 1, 1) := by decide +kernel
theorem dX8_workBehind_54 : decode cX8_workBehind 54 = .ok (.invokevirtual 132, 3) := by decide +kernel
theorem dX8_workBehind_57 : decode cX8_workBehind 57 = .ok (.iconst 0, 1) := by decide +kernel
theorem dX8_workBehind_58 : decode cX8_workBehind 58 = .ok (.istore 5, 2) := by decide +kernel
theorem dX8_workBehind_60 : decode cX8_workBehind 60 = .ok (.iload 5, 2) := by decide +kernel
theorem dX8_workBehind_62 : decode cX8_workBehind 62 = .ok (.aload_n 0, 1) := by decide +kernel
theorem dX8_workBehind_63 : decode cX8_workBehind 63 = .ok (.getfield 9, 3) := by decide +kernel
theorem dX8_workBehind_66 : decode cX8_workBehind 66 = .ok (.iload_n 1, 1) := by decide +kernel
theorem dX8_workBehind_67 : decode cX8_workBehind 67 = .ok (.iaload, 1) := by decide +kernel
theorem dX8_workBehind_68 : decode cX8_workBehind 68 = .ok (.if_icmp .ge 63, 3) := by decide +kernel
theorem dX8_workBehind_71 : decode cX8_workBehind 71 = .ok (.iload_n 2, 1) := by decide +kernel
theorem dX8_workBehind_72 : decode cX8_workBehind 72 = .ok (.aload_n 0, 1) := by decide +kernel
theorem dX8_workBehind_73 : decode cX8_workBehind 73 = .ok (.getfield 126, 3) := by decide +kernel
theorem dX8_workBehind_76 : decode cX8_workBehind 76 = .ok (.iconst 1, 1) := by decide +kernel
theorem dX8_workBehind_77 : decode cX8_workBehind 77 = .ok (.isub, 1) := by decide +kernel
theorem dX8_workBehind_78 : decode cX8_workBehind 78 = .ok (.if_icmp .ge 53, 3) := by decide +kernel
theorem dX8_workBehind_81 : decode cX8_workBehind 81 = .ok (.aload_n 0, 1) := by decide +kernel
theorem dX8_workBehind_82 : decode cX8_workBehind 82 = .ok (.aload 4, 2) := by decide +kernel
theorem dX8_workBehind_84 : decode cX8_workBehind 84 = .ok (.aload_n 0, 1) := by decide +kernel
theorem dX8_workBehind_85 : decode cX8_workBehind 85 = .ok (.getfield 44, 3) := by decide +kernel
theorem dX8_workBehind_88 : decode cX8_workBehind 88 = .ok (.iload_n 2, 1) := by decide +kernel
theorem dX8_workBehind_89 : decode cX8_workBehind 89 = .ok (.iconst 1, 1) := by decide +kernel
theorem dX8_workBehind_90 : decode cX8_workBehind 90 = .ok (.iadd, 1) := by decide +kernel
theorem dX8_workBehind_91 : decode cX8_workBehind 91 = .ok (.bipush 8, 2) := by decide +kernel
theorem dX8_workBehind_93 : decode cX8_workBehind 93 = .ok (.imul, 1) := by decide +kernel
theorem dX8_workBehind_94 : decode cX8_workBehind 94 = .ok (.iload 5, 2) := by decide +kernel
theorem dX8_workBehind_96 : decode cX8_workBehind 96 = .ok (.iadd, 1) := by decide +kernel
theorem dX8_workBehind_97 : decode cX8_workBehind 97 = .ok (.aaload, 1) := by decide +kernel
theorem dX8_workBehind_98 : decode cX8_workBehind 98 = .ok (.aload_n 0, 1) := by decide +kernel
theorem dX8_workBehind_99 : decode cX8_workBehind 99 = .ok (.iload_n 1, 1) := by decide +kernel
theorem dX8_workBehind_100 : decode cX8_workBehind 100 = .ok (.iload_n 3, 1) := by decide +kernel
theorem dX8_workBehind_101 : decode cX8_workBehind 101 = .ok (.iload 5, 2) := by decide +kernel
theorem dX8_workBehind_103 : decode cX8_workBehind 103 = .ok (.invokevirtual 116, 3) := by decide +kernel
theorem dX8_workBehind_106 : decode cX8_workBehind 106 = .ok (.aload_n 0, 1) := by decide +kernel
theorem dX8_workBehind_107 : decode cX8_workBehind 107 = .ok (.iload_n 1, 1) := by decide +kernel
theorem dX8_workBehind_108 : decode cX8_workBehind 108 = .ok (.iload 5, 2) := by decide +kernel
theorem dX8_workBehind_110 : decode cX8_workBehind 110 = .ok (.aload_n 0, 1) := by decide +kernel
theorem dX8_workBehind_111 : decode cX8_workBehind 111 = .ok (.getfield 28, 3) := by decide +kernel
theorem dX8_workBehind_114 : decode cX8_workBehind 114 = .ok (.iload_n 2, 1) := by decide +kernel
theorem dX8_workBehind_115 : decode cX8_workBehind 115 = .ok (.iconst 1, 1) := by decide +kernel
theorem dX8_workBehind_116 : decode cX8_workBehind 116 = .ok (.iadd, 1) := by decide +kernel
theorem dX8_workBehind_117 : decode cX8_workBehind 117 = .ok (.iaload, 1) := by decide +kernel
theorem dX8_workBehind_118 : decode cX8_workBehind 118 = .ok (.invokevirtual 120, 3) := by decide +kernel
theorem dX8_workBehind_121 : decode cX8_workBehind 121 = .ok (.imul, 1) := by decide +kernel
theorem dX8_workBehind_122 : decode cX8_workBehind 122 = .ok (.invokevirtual 150, 3) := by decide +kernel
theorem dX8_workBehind_125 : decode cX8_workBehind 125 = .ok (.iinc 5 1, 3) := by decide +kernel
theorem dX8_workBehind_128 : decode cX8_workBehind 128 = .ok (.goto (-68), 3) := by decide +kernel
theorem dX8_workBehind_131 : decode cX8_workBehind 131 = .ok (.iinc 3 1, 3) := by decide +kernel
theorem dX8_workBehind_134 : decode cX8_workBehind 134 = .ok (.goto (-121), 3) := by decide +kernel
theorem dX8_workBehind_137 : decode cX8_workBehind 137 = .ok (.iinc 2 (-1), 3) := by decide +kernel
theorem dX8_workBehind_140 : decode cX8_workBehind 140 = .ok (.goto (-133), 3) := by decide +kernel
theorem dX8_workBehind_143 : decode cX8_workBehind 143 = .ok (.return_, 1) := by decide +kernel
theorem dX8_workAhead_0 : decode cX8_workAhead 0 = .ok (.iconst 0, 1) := by decide +kernel
theorem dX8_workAhead_1 : decode cX8_workAhead 1 = .ok (.istore_n 2, 1) := by decide +kernel
theorem dX8_workAhead_2 : decode cX8_workAhead 2 = .ok (.iload_n 2, 1) := by decide +kernel
theorem dX8_workAhead_3 : decode cX8_workAhead 3 = .ok (.aload_n 0, 1) := by decide +kernel
theorem dX8_workAhead_4 : decode cX8_workAhead 4 = .ok (.getfield 126, 3) := by decide +kernel
theorem dX8_workAhead_7 : decode cX8_workAhead 7 = .ok (.if_icmp .ge 145, 3) := by decide +kernel
theorem dX8_workAhead_10 : decode cX8_workAhead 10 = .ok (.iconst 0, 1) := by decide +kernel
theorem dX8_workAhead_11 : decode cX8_workAhead 11 = .ok (.istore_n 3, 1) := by decide +kernel
theorem dX8_workAhead_12 : decode cX8_workAhead 12 = .ok (.iload_n 3, 1) := by decide +kernel
theorem dX8_workAhead_13 : decode cX8_workAhead 13 = .ok (.aload_n 0, 1) := by decide +kernel
theorem dX8_workAhead_14 : decode cX8_workAhead 14 = .ok (.getfield 9, 3) := by decide +kernel
theorem dX8_workAhead_17 : decode cX8_workAhead 17 = .ok (.iload_n 1, 1) := by decide +kernel
theorem dX8_workAhead_18 : decode cX8_workAhead 18 = .ok (.iaload, 1) := by decide +kernel
theorem dX8_workAhead_19 : decode cX8_workAhead 19 = .ok (.if_icmp .ge 127, 3) := by decide +kernel
theorem dX8_workAhead_22 : decode cX8_workAhead 22 = .ok (.aload_n 0, 1) := by decide +kernel
theorem dX8_workAhead_23 : decode cX8_workAhead 23 = .ok (.getfield 40, 3) := by decide +kernel
theorem dX8_workAhead_26 : decode cX8_workAhead 26 = .ok (.iload_n 2, 1) := by decide +kernel
theorem dX8_workAhead_27 : decode cX8_workAhead 27 = .ok (.bipush 8, 2) := by decide +kernel
theorem dX8_workAhead_29 : decode cX8_workAhead 29 = .ok (.imul, 1) := by decide +kernel
theorem dX8_workAhead_30 : decode cX8_workAhead 30 = .ok (.iload_n 3, 1) := by decide +kernel
theorem dX8_workAhead_31 : decode cX8_workAhead 31 = .ok (.iadd, 1) := by decide +kernel
theorem dX8_workAhead_32 : decode cX8_workAhead 32 = .ok (.aaload, 1) := by decide +kernel
theorem dX8_workAhead_33 : decode cX8_workAhead 33 = .ok (.astore 4, 2) := by decide +kernel
theorem dX8_workAhead_35 : decode cX8_workAhead 35 = .ok (.aload 4, 2) := by decide +kernel
theorem dX8_workAhead_37 : decode cX8_workAhead 37 = .ok (.invokevirtual 147, 3) := by decide +kernel
theorem dX8_workAhead_40 : decode cX8_workAhead 40 = .ok (.iload_n 2, 1) := by decide +kernel
theorem dX8_workAhead_41 : decode cX8_workAhead 41 = .ok (.ifCond .ne 34, 3) := by decide +kernel
theorem dX8_workAhead_44 : decode cX8_workAhead 44 = .ok (.aload 4, 2) := by decide +kernel
theorem dX8_workAhead_46 : decode cX8_workAhead 46 = .ok (.aload_n 0, 1) := by decide +kernel
theorem dX8_workAhead_47 : decode cX8_workAhead 47 = .ok (.getfield 19, 3) := by decide +kernel
theorem dX8_workAhead_50 : decode cX8_workAhead 50 = .ok (.iload_n 1, 1) := by decide +kernel
theorem dX8_workAhead_51 : decode cX8_workAhead 51 = .ok (.bipush 8, 2) := by decide +kernel
theorem dX8_workAhead_53 : decode cX8_workAhead 53 = .ok (.imul, 1) := by decide +kernel
theorem dX8_workAhead_54 : decode cX8_workAhead 54 = .ok (.iload_n 3, 1) := by decide +kernel
theorem dX8_workAhead_55 : decode cX8_workAhead 55 = .ok (.iadd, 1) := by decide +kernel
theorem dX8_workAhead_56 : decode cX8_workAhead 56 = .ok (.iaload, 1) := by decide +kernel
theorem dX8_workAhead_57 : decode cX8_workAhead 57 = .ok (.i2l, 1) := by decide +kernel
theorem dX8_workAhead_58 : decode cX8_workAhead 58 = .ok (.aload_n 0, 1) := by decide +kernel
theorem dX8_workAhead_59 : decode cX8_workAhead 59 = .ok (.iload_n 1, 1) := by decide +kernel
theorem dX8_workAhead_60 : decode cX8_workAhead 60 = .ok (.iload_n 3, 1) := by decide +kernel
theorem dX8_workAhead_61 : decode cX8_workAhead 61 = .ok (.aload_n 0, 1) := by decide +kernel
theorem dX8_workAhead_62 : decode cX8_workAhead 62 = .ok (.getfield 28, 3) := by decide +kernel
theorem dX8_workAhead_65 : decode cX8_workAhead 65 = .ok (.iconst 0, 1) := by decide +kernel
theorem dX8_workAhead_66 : decode cX8_workAhead 66 = .ok (.iaload, 1) := by decide +kernel
theorem dX8_workAhead_67 : decode cX8_workAhead 67 = .ok (.invokevirtual 120, 3) := by decide +kernel
theorem dX8_workAhead_70 : decode cX8_workAhead 70 = .ok (.i2l, 1) := by decide +kernel
theorem dX8_workAhead_71 : decode cX8_workAhead 71 = .ok (.lmul, 1) := by decide +kernel
theorem dX8_workAhead_72 : decode cX8_workAhead 72 = .ok (.invokevirtual 132, 3) := by decide +kernel
theorem dX8_workAhead_75 : decode cX8_workAhead 75 = .ok (.iconst 0, 1) := by decide +kernel
theorem dX8_workAhead_76 : decode cX8_workAhead 76 = .ok (.istore 5, 2) := by decide +kernel
theorem dX8_workAhead_78 : decode cX8_workAhead 78 = .ok (.iload 5, 2) := by decide +kernel
theorem dX8_workAhead_80 : decode cX8_workAhead 80 = .ok (.aload_n 0, 1) := by decide +kernel
theorem dX8_workAhead_81 : decode cX8_workAhead 81 = .ok (.getfield 9, 3) := by decide +kernel
theorem dX8_workAhead_84 : decode cX8_workAhead 84 = .ok (.iload_n 1, 1) := by decide +kernel
theorem dX8_workAhead_85 : decode cX8_workAhead 85 = .ok (.iaload, 1) := by decide +kernel
theorem dX8_workAhead_86 : decode cX8_workAhead 86 = .ok (.if_icmp .ge 54, 3) := by decide +kernel
theorem dX8_workAhead_89 : decode cX8_workAhead 89 = .ok (.iload_n 2, 1) := by decide +kernel
theorem dX8_workAhead_90 : decode cX8_workAhead 90 = .ok (.ifCond .le 50, 3) := by decide +kernel
theorem dX8_workAhead_93 : decode cX8_workAhead 93 = .ok (.aload_n 0, 1) := by decide +kernel
theorem dX8_workAhead_94 : decode cX8_workAhead 94 = .ok (.aload 4, 2) := by decide +kernel
theorem dX8_workAhead_96 : decode cX8_workAhead 96 = .ok (.aload_n 0, 1) := by decide +kernel
theorem dX8_workAhead_97 : decode cX8_workAhead 97 = .ok (.getfield 40, 3) := by decide +kernel
theorem dX8_workAhead_100 : decode cX8_workAhead 100 = .ok (.iload_n 2, 1) := by decide +kernel
theorem dX8_workAhead_101 : decode cX8_workAhead 101 = .ok (.iconst 1, 1) := by decide +kernel
theorem dX8_workAhead_102 : decode cX8_workAhead 102 = .ok (.isub, 1) := by decide +kernel
theorem dX8_workAhead_103 : decode cX8_workAhead 103 = .ok (.bipush 8, 2) := by decide +kernel
theorem dX8_workAhead_105 : decode cX8_workAhead 105 = .ok (.imul, 1) := by decide +kernel
theorem dX8_workAhead_106 : decode cX8_workAhead 106 = .ok (.iload 5, 2) := by decide +kernel
theorem dX8_workAhead_108 : decode cX8_workAhead 108 = .ok (.iadd, 1) := by decide +kernel
theorem dX8_workAhead_109 : decode cX8_workAhead 109 = .ok (.aaload, 1) := by decide +kernel
theorem dX8_workAhead_110 : decode cX8_workAhead 110 = .ok (.aload_n 0, 1) := by decide +kernel
theorem dX8_workAhead_111 : decode cX8_workAhead 111 = .ok (.iload_n 1, 1) := by decide +kernel
theorem dX8_workAhead_112 : decode cX8_workAhead 112 = .ok (.iload 5, 2) := by decide +kernel
theorem dX8_workAhead_114 : decode cX8_workAhead 114 = .ok (.iload_n 3, 1) := by decide +kernel
theorem dX8_workAhead_115 : decode cX8_workAhead 115 = .ok (.invokevirtual 116, 3) := by decide +kernel
theorem dX8_workAhead_118 : decode cX8_workAhead 118 = .ok (.aload_n 0, 1) := by decide +kernel
theorem dX8_workAhead_119 : decode cX8_workAhead 119 = .ok (.iload_n 1, 1) := by decide +kernel
theorem dX8_workAhead_120 : decode cX8_workAhead 120 = .ok (.iload_n 3, 1) := by decide +kernel
theorem dX8_workAhead_121 : decode cX8_workAhead 121 = .ok (.aload_n 0, 1) := by decide +kernel
theorem dX8_workAhead_122 : decode cX8_workAhead 122 = .ok (.getfield 28, 3) := by decide +kernel
theorem dX8_workAhead_125 : decode cX8_workAhead 125 = .ok (.iload_n 2, 1) := by decide +kernel
theorem dX8_workAhead_126 : decode cX8_workAhead 126 = .ok (.iaload, 1) := by decide +kernel
theorem dX8_workAhead_127 : decode cX8_workAhead 127 = .ok (.invokevirtual 120, 3) := by decide +kernel
theorem dX8_workAhead_130 : decode cX8_workAhead 130 = .ok (.imul, 1) := by decide +kernel
theorem dX8_workAhead_131 : decode cX8_workAhead 131 = .ok (.invokevirtual 150, 3) := by decide +kernel
theorem dX8_workAhead_134 : decode cX8_workAhead 134 = .ok (.iinc 5 1, 3) := by decide +kernel
theorem dX8_workAhead_137 : decode cX8_workAhead 137 = .ok (.goto (-59), 3) := by decide +kernel
theorem dX8_workAhead_140 : decode cX8_workAhead 140 = .ok (.iinc 3 1, 3) := by decide +kernel
theorem dX8_workAhead_143 : decode cX8_workAhead 143 = .ok (.goto (-131), 3) := by decide +kernel
theorem dX8_workAhead_146 : decode cX8_workAhead 146 = .ok (.iinc 2 1, 3) := by decide +kernel
theorem dX8_workAhead_149 : decode cX8_workAhead 149 = .ok (.goto (-147), 3) := by decide +kernel
theorem dX8_workAhead_152 : decode cX8_workAhead 152 = .ok (.return_, 1) := by decide +kernel
theorem dX8_chance_0 : decode cX8_chance 0 = .ok (.aload_n 0, 1) := by decide +kernel
theorem dX8_chance_1 : decode cX8_chance 1 = .ok (.iload_n 1, 1) := by decide +kernel
theorem dX8_chance_2 : decode cX8_chance 2 = .ok (.invokevirtual 154, 3) := by decide +kernel
theorem dX8_chance_5 : decode cX8_chance 5 = .ok (.aload_n 2, 1) := by decide +kernel
theorem dX8_chance_6 : decode cX8_chance 6 = .ok (.invokevirtual 147, 3) := by decide +kernel
theorem dX8_chance_9 : decode cX8_chance 9 = .ok (.iconst 0, 1) := by decide +kernel
theorem dX8_chance_10 : decode cX8_chance 10 = .ok (.istore_n 3, 1) := by decide +kernel
theorem dX8_chance_11 : decode cX8_chance 11 = .ok (.iload_n 3, 1) := by decide +kernel
theorem dX8_chance_12 : decode cX8_chance 12 = .ok (.aload_n 0, 1) := by decide +kernel
theorem dX8_chance_13 : decode cX8_chance 13 = .ok (.getfield 9, 3) := by decide +kernel
theorem dX8_chance_16 : decode cX8_chance 16 = .ok (.iload_n 1, 1) := by decide +kernel
theorem dX8_chance_17 : decode cX8_chance 17 = .ok (.iaload, 1) := by decide +kernel
theorem dX8_chance_18 : decode cX8_chance 18 = .ok (.if_icmp .ge 44, 3) := by decide +kernel
theorem dX8_chance_21 : decode cX8_chance 21 = .ok (.aload_n 0, 1) := by decide +kernel
theorem dX8_chance_22 : decode cX8_chance 22 = .ok (.aload_n 2, 1) := by decide +kernel
theorem dX8_chance_23 : decode cX8_chance 23 = .ok (.aload_n 0, 1) := by decide +kernel
theorem dX8_chance_24 : decode cX8_chance 24 = .ok (.getfield 44, 3) := by decide +kernel
theorem dX8_chance_27 : decode cX8_chance 27 = .ok (.iload_n 3, 1) := by decide +kernel
theorem dX8_chance_28 : decode cX8_chance 28 = .ok (.aaload, 1) := by decide +kernel
theorem dX8_chance_29 : decode cX8_chance 29 = .ok (.aload_n 0, 1) := by decide +kernel
theorem dX8_chance_30 : decode cX8_chance 30 = .ok (.getfield 19, 3) := by decide +kernel
theorem dX8_chance_33 : decode cX8_chance 33 = .ok (.iload_n 1, 1) := by decide +kernel
theorem dX8_chance_34 : decode cX8_chance 34 = .ok (.bipush 8, 2) := by decide +kernel
theorem dX8_chance_36 : decode cX8_chance 36 = .ok (.imul, 1) := by decide +kernel
theorem dX8_chance_37 : decode cX8_chance 37 = .ok (.iload_n 3, 1) := by decide +kernel
theorem dX8_chance_38 : decode cX8_chance 38 = .ok (.iadd, 1) := by decide +kernel
theorem dX8_chance_39 : decode cX8_chance 39 = .ok (.iaload, 1) := by decide +kernel
theorem dX8_chance_40 : decode cX8_chance 40 = .ok (.aload_n 0, 1) := by decide +kernel
theorem dX8_chance_41 : decode cX8_chance 41 = .ok (.iload_n 1, 1) := by decide +kernel
theorem dX8_chance_42 : decode cX8_chance 42 = .ok (.iload_n 3, 1) := by decide +kernel
theorem dX8_chance_43 : decode cX8_chance 43 = .ok (.aload_n 0, 1) := by decide +kernel
theorem dX8_chance_44 : decode cX8_chance 44 = .ok (.getfield 28, 3) := by decide +kernel
theorem dX8_chance_47 : decode cX8_chance 47 = .ok (.iconst 0, 1) := by decide +kernel
theorem dX8_chance_48 : decode cX8_chance 48 = .ok (.iaload, 1) := by decide +kernel
theorem dX8_chance_49 : decode cX8_chance 49 = .ok (.invokevirtual 120, 3) := by decide +kernel
theorem dX8_chance_52 : decode cX8_chance 52 = .ok (.imul, 1) := by decide +kernel
theorem dX8_chance_53 : decode cX8_chance 53 = .ok (.invokevirtual 150, 3) := by decide +kernel
theorem dX8_chance_56 : decode cX8_chance 56 = .ok (.iinc 3 1, 3) := by decide +kernel
theorem dX8_chance_59 : decode cX8_chance 59 = .ok (.goto (-48), 3) := by decide +kernel
theorem dX8_chance_62 : decode cX8_chance 62 = .ok (.return_, 1) := by decide +kernel
theorem dX8_digits_0 : decode cX8_digits 0 = .ok (.aload_n 0, 1) := by decide +kernel
theorem dX8_digits_1 : decode cX8_digits 1 = .ok (.getfield 83, 3) := by decide +kernel
theorem dX8_digits_4 : decode cX8_digits 4 = .ok (.aload_n 0, 1) := by decide +kernel
theorem dX8_digits_5 : decode cX8_digits 5 = .ok (.getfield 36, 3) := by decide +kernel
theorem dX8_digits_8 : decode cX8_digits 8 = .ok (.invokevirtual 143, 3) := by decide +kernel
theorem dX8_digits_11 : decode cX8_digits 11 = .ok (.iconst 0, 1) := by decide +kernel
theorem dX8_digits_12 : decode cX8_digits 12 = .ok (.istore_n 1, 1) := by decide +kernel
theorem dX8_digits_13 : decode cX8_digits 13 = .ok (.aload_n 0, 1) := by decide +kernel
theorem dX8_digits_14 : decode cX8_digits 14 = .ok (.getfield 83, 3) := by decide +kernel
theorem dX8_digits_17 : decode cX8_digits 17 = .ok (.getfield 157, 3) := by decide +kernel
theorem dX8_digits_20 : decode cX8_digits 20 = .ok (.ifCond .eq 19, 3) := by decide +kernel
theorem dX8_digits_23 : decode cX8_digits 23 = .ok (.aload_n 0, 1) := by decide +kernel
theorem dX8_digits_24 : decode cX8_digits 24 = .ok (.getfield 83, 3) := by decide +kernel
theorem dX8_digits_27 : decode cX8_digits 27 = .ok (.bipush 10, 2) := by decide +kernel
theorem dX8_digits_29 : decode cX8_digits 29 = .ok (.invokevirtual 160, 3) := by decide +kernel
theorem dX8_digits_32 : decode cX8_digits 32 = .ok (.istore_n 2, 1) := by decide +kernel
theorem dX8_digits_33 : decode cX8_digits 33 = .ok (.iinc 1 1, 3) := by decide +kernel
theorem dX8_digits_36 : decode cX8_digits 36 = .ok (.goto (-23), 3) := by decide +kernel
theorem dX8_digits_39 : decode cX8_digits 39 = .ok (.iload_n 1, 1) := by decide +kernel
theorem dX8_digits_40 : decode cX8_digits 40 = .ok (.ifCond .ne 7, 3) := by decide +kernel
theorem dX8_digits_43 : decode cX8_digits 43 = .ok (.iconst 1, 1) := by decide +kernel
theorem dX8_digits_44 : decode cX8_digits 44 = .ok (.goto 4, 3) := by decide +kernel
theorem dX8_digits_47 : decode cX8_digits 47 = .ok (.iload_n 1, 1) := by decide +kernel
theorem dX8_digits_48 : decode cX8_digits 48 = .ok (.ireturn, 1) := by decide +kernel
theorem dX8_sum_0 : decode cX8_sum 0 = .ok (.aload_n 0, 1) := by decide +kernel
theorem dX8_sum_1 : decode cX8_sum 1 = .ok (.iload_n 1, 1) := by decide +kernel
theorem dX8_sum_2 : decode cX8_sum 2 = .ok (.invokevirtual 105, 3) := by decide +kernel
theorem dX8_sum_5 : decode cX8_sum 5 = .ok (.ifCond .ne 5, 3) := by decide +kernel
theorem dX8_sum_8 : decode cX8_sum 8 = .ok (.iconst (-1), 1) := by decide +kernel
theorem dX8_sum_9 : decode cX8_sum 9 = .ok (.ireturn, 1) := by decide +kernel
theorem dX8_sum_10 : decode cX8_sum 10 = .ok (.aload_n 0, 1) := by decide +kernel
theorem dX8_sum_11 : decode cX8_sum 11 = .ok (.iload_n 1, 1) := by decide +kernel
theorem dX8_sum_12 : decode cX8_sum 12 = .ok (.invokevirtual 164, 3) := by decide +kernel
theorem dX8_sum_15 : decode cX8_sum 15 = .ok (.istore_n 2, 1) := by decide +kernel
theorem dX8_sum_16 : decode cX8_sum 16 = .ok (.iload_n 2, 1) := by decide +kernel
theorem dX8_sum_17 : decode cX8_sum 17 = .ok (.ifCond .eq 5, 3) := by decide +kernel
theorem dX8_sum_20 : decode cX8_sum 20 = .ok (.iload_n 2, 1) := by decide +kernel
theorem dX8_sum_21 : decode cX8_sum 21 = .ok (.ireturn, 1) := by decide +kernel
theorem dX8_sum_22 : decode cX8_sum 22 = .ok (.aload_n 0, 1) := by decide +kernel
theorem dX8_sum_23 : decode cX8_sum 23 = .ok (.iload_n 1, 1) := by decide +kernel
theorem dX8_sum_24 : decode cX8_sum 24 = .ok (.aload_n 0, 1) := by decide +kernel
theorem dX8_sum_25 : decode cX8_sum 25 = .ok (.getfield 36, 3) := by decide +kernel
theorem dX8_sum_28 : decode cX8_sum 28 = .ok (.invokevirtual 167, 3) := by decide +kernel
theorem dX8_sum_31 : decode cX8_sum 31 = .ok (.aload_n 0, 1) := by decide +kernel
theorem dX8_sum_32 : decode cX8_sum 32 = .ok (.invokevirtual 171, 3) := by decide +kernel
theorem dX8_sum_35 : decode cX8_sum 35 = .ok (.ireturn, 1) := by decide +kernel
theorem dX8_odds_0 : decode cX8_odds 0 = .ok (.aload_n 0, 1) := by decide +kernel
theorem dX8_odds_1 : decode cX8_odds 1 = .ok (.iload_n 1, 1) := by decide +kernel
theorem dX8_odds_2 : decode cX8_odds 2 = .ok (.invokevirtual 105, 3) := by decide +kernel
theorem dX8_odds_5 : decode cX8_odds 5 = .ok (.ifCond .eq 35, 3) := by decide +kernel
theorem dX8_odds_8 : decode cX8_odds 8 = .ok (.iload_n 2, 1) := by decide +kernel
theorem dX8_odds_9 : decode cX8_odds 9 = .ok (.ifCond .lt 31, 3) := by decide +kernel
theorem dX8_odds_12 : decode cX8_odds 12 = .ok (.iload_n 2, 1) := by decide +kernel
theorem dX8_odds_13 : decode cX8_odds 13 = .ok (.aload_n 0, 1) := by decide +kernel
theorem dX8_odds_14 : decode cX8_odds 14 = .ok (.getfield 126, 3) := by decide +kernel
theorem dX8_odds_17 : decode cX8_odds 17 = .ok (.if_icmp .ge 23, 3) := by decide +kernel
theorem dX8_odds_20 : decode cX8_odds 20 = .ok (.aload_n 0, 1) := by decide +kernel
theorem dX8_odds_21 : decode cX8_odds 21 = .ok (.iload_n 1, 1) := by decide +kernel
theorem dX8_odds_22 : decode cX8_odds 22 = .ok (.iload_n 3, 1) := by decide +kernel
theorem dX8_odds_23 : decode cX8_odds 23 = .ok (.invokevirtual 109, 3) := by decide +kernel
theorem dX8_odds_26 : decode cX8_odds 26 = .ok (.ifCond .eq 14, 3) := by decide +kernel
theorem dX8_odds_29 : decode cX8_odds 29 = .ok (.iload 4, 2) := by decide +kernel
theorem dX8_odds_31 : decode cX8_odds 31 = .ok (.ifCond .lt 9, 3) := by decide +kernel
theorem dX8_odds_34 : decode cX8_odds 34 = .ok (.iload 4, 2) := by decide +kernel
theorem dX8_odds_36 : decode cX8_odds 36 = .ok (.iconst 2, 1) := by decide +kernel
theorem dX8_odds_37 : decode cX8_odds 37 = .ok (.if_icmp .le 5, 3) := by decide +kernel
theorem dX8_odds_40 : decode cX8_odds 40 = .ok (.iconst (-1), 1) := by decide +kernel
theorem dX8_odds_41 : decode cX8_odds 41 = .ok (.ireturn, 1) := by decide +kernel
theorem dX8_odds_42 : decode cX8_odds 42 = .ok (.aload_n 0, 1) := by decide +kernel
theorem dX8_odds_43 : decode cX8_odds 43 = .ok (.iload_n 1, 1) := by decide +kernel
theorem dX8_odds_44 : decode cX8_odds 44 = .ok (.invokevirtual 164, 3) := by decide +kernel
theorem dX8_odds_47 : decode cX8_odds 47 = .ok (.istore 5, 2) := by decide +kernel
theorem dX8_odds_49 : decode cX8_odds 49 = .ok (.iload 5, 2) := by decide +kernel
theorem dX8_odds_51 : decode cX8_odds 51 = .ok (.ifCond .eq 6, 3) := by decide +kernel
theorem dX8_odds_54 : decode cX8_odds 54 = .ok (.iload 5, 2) := by decide +kernel
theorem dX8_odds_56 : decode cX8_odds 56 = .ok (.ireturn, 1) := by decide +kernel
theorem dX8_odds_57 : decode cX8_odds 57 = .ok (.aload_n 0, 1) := by decide +kernel
theorem dX8_odds_58 : decode cX8_odds 58 = .ok (.iload_n 1, 1) := by decide +kernel
theorem dX8_odds_59 : decode cX8_odds 59 = .ok (.invokevirtual 175, 3) := by decide +kernel
theorem dX8_odds_62 : decode cX8_odds 62 = .ok (.aload_n 0, 1) := by decide +kernel
theorem dX8_odds_63 : decode cX8_odds 63 = .ok (.iload_n 1, 1) := by decide +kernel
theorem dX8_odds_64 : decode cX8_odds 64 = .ok (.invokevirtual 154, 3) := by decide +kernel
theorem dX8_odds_67 : decode cX8_odds 67 = .ok (.iload 4, 2) := by decide +kernel
theorem dX8_odds_69 : decode cX8_odds 69 = .ok (.iconst 2, 1) := by decide +kernel
theorem dX8_odds_70 : decode cX8_odds 70 = .ok (.if_icmp .ge 43, 3) := by decide +kernel
theorem dX8_odds_73 : decode cX8_odds 73 = .ok (.aload_n 0, 1) := by decide +kernel
theorem dX8_odds_74 : decode cX8_odds 74 = .ok (.getfield 36, 3) := by decide +kernel
theorem dX8_odds_77 : decode cX8_odds 77 = .ok (.iload 4, 2) := by decide +kernel
theorem dX8_odds_79 : decode cX8_odds 79 = .ok (.ifCond .ne 17, 3) := by decide +kernel
theorem dX8_odds_82 : decode cX8_odds 82 = .ok (.aload_n 0, 1) := by decide +kernel
theorem dX8_odds_83 : decode cX8_odds 83 = .ok (.getfield 40, 3) := by decide +kernel
theorem dX8_odds_86 : decode cX8_odds 86 = .ok (.iload_n 2, 1) := by decide +kernel
theorem dX8_odds_87 : decode cX8_odds 87 = .ok (.bipush 8, 2) := by decide +kernel
theorem dX8_odds_89 : decode cX8_odds 89 = .ok (.imul, 1) := by decide +kernel
theorem dX8_odds_90 : decode cX8_odds 90 = .ok (.iload_n 3, 1) := by decide +kernel
theorem dX8_odds_91 : decode cX8_odds 91 = .ok (.iadd, 1) := by decide +kernel
theorem dX8_odds_92 : decode cX8_odds 92 = .ok (.aaload, 1) := by decide +kernel
theorem dX8_odds_93 : decode cX8_odds 93 = .ok (.goto 14, 3) := by decide +kernel
theorem dX8_odds_96 : decode cX8_odds 96 = .ok (.aload_n 0, 1) := by decide +kernel
theorem dX8_odds_97 : decode cX8_odds 97 = .ok (.getfield 44, 3) := by decide +kernel
theorem dX8_odds_100 : decode cX8_odds 100 = .ok (.iload_n 2, 1) := by decide +kernel
theorem dX8_odds_101 : decode cX8_odds 101 = .ok (.bipush 8, 2) := by decide +kernel
theorem dX8_odds_103 : decode cX8_odds 103 = .ok (.imul, 1) := by decide +kernel
theorem dX8_odds_104 : decode cX8_odds 104 = .ok (.iload_n 3, 1) := by decide +kernel
theorem dX8_odds_105 : decode cX8_odds 105 = .ok (.iadd, 1) := by decide +kernel
theorem dX8_odds_106 : decode cX8_odds 106 = .ok (.aaload, 1) := by decide +kernel
theorem dX8_odds_107 : decode cX8_odds 107 = .ok (.invokevirtual 143, 3) := by decide +kernel
theorem dX8_odds_110 : decode cX8_odds 110 = .ok (.goto 32, 3) := by decide +kernel
theorem dX8_odds_113 : decode cX8_odds 113 = .ok (.aload_n 0, 1) := by decide +kernel
theorem dX8_odds_114 : decode cX8_odds 114 = .ok (.getfield 36, 3) := by decide +kernel
theorem dX8_odds_117 : decode cX8_odds 117 = .ok (.aload_n 0, 1) := by decide +kernel
theorem dX8_odds_118 : decode cX8_odds 118 = .ok (.getfield 40, 3) := by decide +kernel
theorem dX8_odds_121 : decode cX8_odds 121 = .ok (.iload_n 2, 1) := by decide +kernel
theorem dX8_odds_122 : decode cX8_odds 122 = .ok (.bipush 8, 2) := by decide +kernel
theorem dX8_odds_124 : decode cX8_odds 124 = .ok (.imul, 1) := by decide +kernel
theorem dX8_odds_125 : decode cX8_odds 125 = .ok (.iload_n 3, 1) := by decide +kernel
theorem dX8_odds_126 : decode cX8_odds 126 = .ok (.iadd, 1) := by decide +kernel
theorem dX8_odds_127 : decode cX8_odds 127 = .ok (.aaload, 1) := by decide +kernel
theorem dX8_odds_128 : decode cX8_odds 128 = .ok (.aload_n 0, 1) := by decide +kernel
theorem dX8_odds_129 : decode cX8_odds 129 = .ok (.getfield 44, 3) := by decide +kernel
theorem dX8_odds_132 : decode cX8_odds 132 = .ok (.iload_n 2, 1) := by decide +kernel
theorem dX8_odds_133 : decode cX8_odds 133 = .ok (.bipush 8, 2) := by decide +kernel
theorem dX8_odds_135 : decode cX8_odds 135 = .ok (.imul, 1) := by decide +kernel
theorem dX8_odds_136 : decode cX8_odds 136 = .ok (.iload_n 3, 1) := by decide +kernel
theorem dX8_odds_137 : decode cX8_odds 137 = .ok (.iadd, 1) := by decide +kernel
theorem dX8_odds_138 : decode cX8_odds 138 = .ok (.aaload, 1) := by decide +kernel
theorem dX8_odds_139 : decode cX8_odds 139 = .ok (.invokevirtual 136, 3) := by decide +kernel
theorem dX8_odds_142 : decode cX8_odds 142 = .ok (.aload_n 0, 1) := by decide +kernel
theorem dX8_odds_143 : decode cX8_odds 143 = .ok (.invokevirtual 171, 3) := by decide +kernel
theorem dX8_odds_146 : decode cX8_odds 146 = .ok (.ireturn, 1) := by decide +kernel
theorem dX8_moment_0 : decode cX8_moment 0 = .ok (.aload_n 0, 1) := by decide +kernel
theorem dX8_moment_1 : decode cX8_moment 1 = .ok (.iload_n 1, 1) := by decide +kernel
theorem dX8_moment_2 : decode cX8_moment 2 = .ok (.invokevirtual 105, 3) := by decide +kernel
theorem dX8_moment_5 : decode cX8_moment 5 = .ok (.ifCond .eq 15, 3) := by decide +kernel
theorem dX8_moment_8 : decode cX8_moment 8 = .ok (.iload_n 2, 1) := by decide +kernel
theorem dX8_moment_9 : decode cX8_moment 9 = .ok (.ifCond .lt 11, 3) := by decide +kernel
theorem dX8_moment_12 : decode cX8_moment 12 = .ok (.iload_n 2, 1) := by decide +kernel
theorem dX8_moment_13 : decode cX8_moment 13 = .ok (.aload_n 0, 1) := by decide +kernel
theorem dX8_moment_14 : decode cX8_moment 14 = .ok (.getfield 126, 3) := by decide +kernel
theorem dX8_moment_17 : decode cX8_moment 17 = .ok (.if_icmp .lt 5, 3) := by decide +kernel
theorem dX8_moment_20 : decode cX8_moment 20 = .ok (.iconst (-1), 1) := by decide +kernel
theorem dX8_moment_21 : decode cX8_moment 21 = .ok (.ireturn, 1) := by decide +kernel
theorem dX8_moment_22 : decode cX8_moment 22 = .ok (.aload_n 0, 1) := by decide +kernel
theorem dX8_moment_23 : decode cX8_moment 23 = .ok (.iload_n 1, 1) := by decide +kernel
theorem dX8_moment_24 : decode cX8_moment 24 = .ok (.invokevirtual 164, 3) := by decide +kernel
theorem dX8_moment_27 : decode cX8_moment 27 = .ok (.istore_n 3, 1) := by decide +kernel
theorem dX8_moment_28 : decode cX8_moment 28 = .ok (.iload_n 3, 1) := by decide +kernel
theorem dX8_moment_29 : decode cX8_moment 29 = .ok (.ifCond .eq 5, 3) := by decide +kernel
theorem dX8_moment_32 : decode cX8_moment 32 = .ok (.iload_n 3, 1) := by decide +kernel
theorem dX8_moment_33 : decode cX8_moment 33 = .ok (.ireturn, 1) := by decide +kernel
theorem dX8_moment_34 : decode cX8_moment 34 = .ok (.aload_n 0, 1) := by decide +kernel
theorem dX8_moment_35 : decode cX8_moment 35 = .ok (.iload_n 1, 1) := by decide +kernel
theorem dX8_moment_36 : decode cX8_moment 36 = .ok (.invokevirtual 175, 3) := by decide +kernel
theorem dX8_moment_39 : decode cX8_moment 39 = .ok (.aload_n 0, 1) := by decide +kernel
theorem dX8_moment_40 : decode cX8_moment 40 = .ok (.iload_n 1, 1) := by decide +kernel
theorem dX8_moment_41 : decode cX8_moment 41 = .ok (.invokevirtual 154, 3) := by decide +kernel
theorem dX8_moment_44 : decode cX8_moment 44 = .ok (.iconst 0, 1) := by decide +kernel
theorem dX8_moment_45 : decode cX8_moment 45 = .ok (.istore 4, 2) := by decide +kernel
theorem dX8_moment_47 : decode cX8_moment 47 = .ok (.aload_n 0, 1) := by decide +kernel
theorem dX8_moment_48 : decode cX8_moment 48 = .ok (.getfield 89, 3) := by decide +kernel
theorem dX8_moment_51 : decode cX8_moment 51 = .ok (.invokevirtual 147, 3) := by decide +kernel
theorem dX8_moment_54 : decode cX8_moment 54 = .ok (.iconst 0, 1) := by decide +kernel
theorem dX8_moment_55 : decode cX8_moment 55 = .ok (.istore 5, 2) := by decide +kernel
theorem dX8_moment_57 : decode cX8_moment 57 = .ok (.iload 5, 2) := by decide +kernel
theorem dX8_moment_59 : decode cX8_moment 59 = .ok (.aload_n 0, 1) := by decide +kernel
theorem dX8_moment_60 : decode cX8_moment 60 = .ok (.getfield 9, 3) := by decide +kernel
theorem dX8_moment_63 : decode cX8_moment 63 = .ok (.iload_n 1, 1) := by decide +kernel
theorem dX8_moment_64 : decode cX8_moment 64 = .ok (.iaload, 1) := by decide +kernel
theorem dX8_moment_65 : decode cX8_moment 65 = .ok (.if_icmp .ge 69, 3) := by decide +kernel
theorem dX8_moment_68 : decode cX8_moment 68 = .ok (.aload_n 0, 1) := by decide +kernel
theorem dX8_moment_69 : decode cX8_moment 69 = .ok (.getfield 92, 3) := by decide +kernel
theorem dX8_moment_72 : decode cX8_moment 72 = .ok (.aload_n 0, 1) := by decide +kernel
theorem dX8_moment_73 : decode cX8_moment 73 = .ok (.getfield 40, 3) := by decide +kernel
theorem dX8_moment_76 : decode cX8_moment 76 = .ok (.iload_n 2, 1) := by decide +kernel
theorem dX8_moment_77 : decode cX8_moment 77 = .ok (.bipush 8, 2) := by decide +kernel
theorem dX8_moment_79 : decode cX8_moment 79 = .ok (.imul, 1) := by decide +kernel
theorem dX8_moment_80 : decode cX8_moment 80 = .ok (.iload 5, 2) := by decide +kernel
theorem dX8_moment_82 : decode cX8_moment 82 = .ok (.iadd, 1) := by decide +kernel
theorem dX8_moment_83 : decode cX8_moment 83 = .ok (.aaload, 1) := by decide +kernel
theorem dX8_moment_84 : decode cX8_moment 84 = .ok (.aload_n 0, 1) := by decide +kernel
theorem dX8_moment_85 : decode cX8_moment 85 = .ok (.getfield 44, 3) := by decide +kernel
theorem dX8_moment_88 : decode cX8_moment 88 = .ok (.iload_n 2, 1) := by decide +kernel
theorem dX8_moment_89 : decode cX8_moment 89 = .ok (.bipush 8, 2) := by decide +kernel
theorem dX8_moment_91 : decode cX8_moment 91 = .ok (.imul, 1) := by decide +kernel
theorem dX8_moment_92 : decode cX8_moment 92 = .ok (.iload 5, 2) := by decide +kernel
theorem dX8_moment_94 : decode cX8_moment 94 = .ok (.iadd, 1) := by decide +kernel
theorem dX8_moment_95 : decode cX8_moment 95 = .ok (.aaload, 1) := by decide +kernel
theorem dX8_moment_96 : decode cX8_moment 96 = .ok (.invokevirtual 136, 3) := by decide +kernel
theorem dX8_moment_99 : decode cX8_moment 99 = .ok (.aload_n 0, 1) := by decide +kernel
theorem dX8_moment_100 : decode cX8_moment 100 = .ok (.getfield 92, 3) := by decide +kernel
theorem dX8_moment_103 : decode cX8_moment 103 = .ok (.aload_n 0, 1) := by decide +kernel
theorem dX8_moment_104 : decode cX8_moment 104 = .ok (.getfield 89, 3) := by decide +kernel
theorem dX8_moment_107 : decode cX8_moment 107 = .ok (.invokevirtual 178, 3) := by decide +kernel
theorem dX8_moment_110 : decode cX8_moment 110 = .ok (.ifCond .le 18, 3) := by decide +kernel
theorem dX8_moment_113 : decode cX8_moment 113 = .ok (.iload 5, 2) := by decide +kernel
theorem dX8_moment_115 : decode cX8_moment 115 = .ok (.istore 4, 2) := by decide +kernel
theorem dX8_moment_117 : decode cX8_moment 117 = .ok (.aload_n 0, 1) := by decide +kernel
theorem dX8_moment_118 : decode cX8_moment 118 = .ok (.getfield 89, 3) := by decide +kernel
theorem dX8_moment_121 : decode cX8_moment 121 = .ok (.aload_n 0, 1) := by decide +kernel
theorem dX8_moment_122 : decode cX8_moment 122 = .ok (.getfield 92, 3) := by decide +kernel
theorem dX8_moment_125 : decode cX8_moment 125 = .ok (.invokevirtual 143, 3) := by decide +kernel
theorem dX8_moment_128 : decode cX8_moment 128 = .ok (.iinc 5 1, 3) := by decide +kernel
theorem dX8_moment_131 : decode cX8_moment 131 = .ok (.goto (-74), 3) := by decide +kernel
theorem dX8_moment_134 : decode cX8_moment 134 = .ok (.aload_n 0, 1) := by decide +kernel
theorem dX8_moment_135 : decode cX8_moment 135 = .ok (.getfield 89, 3) := by decide +kernel
theorem dX8_moment_138 : decode cX8_moment 138 = .ok (.getfield 157, 3) := by decide +kernel
theorem dX8_moment_141 : decode cX8_moment 141 = .ok (.ifCond .ne 8, 3) := by decide +kernel
theorem dX8_moment_144 : decode cX8_moment 144 = .ok (.bipush (-5), 2) := by decide +kernel
theorem dX8_moment_146 : decode cX8_moment 146 = .ok (.goto 5, 3) := by decide +kernel
theorem dX8_moment_149 : decode cX8_moment 149 = .ok (.iload 4, 2) := by decide +kernel
theorem dX8_moment_151 : decode cX8_moment 151 = .ok (.ireturn, 1) := by decide +kernel
theorem dX8_workEnds_0 : decode cX8_workEnds 0 = .ok (.aload_n 0, 1) := by decide +kernel
theorem dX8_workEnds_1 : decode cX8_workEnds 1 = .ok (.getfield 126, 3) := by decide +kernel
theorem dX8_workEnds_4 : decode cX8_workEnds 4 = .ok (.iconst 1, 1) := by decide +kernel
theorem dX8_workEnds_5 : decode cX8_workEnds 5 = .ok (.isub, 1) := by decide +kernel
theorem dX8_workEnds_6 : decode cX8_workEnds 6 = .ok (.istore_n 2, 1) := by decide +kernel
theorem dX8_workEnds_7 : decode cX8_workEnds 7 = .ok (.iload_n 2, 1) := by decide +kernel
theorem dX8_workEnds_8 : decode cX8_workEnds 8 = .ok (.ifCond .lt 180, 3) := by decide +kernel
theorem dX8_workEnds_11 : decode cX8_workEnds 11 = .ok (.iconst 0, 1) := by decide +kernel
theorem dX8_workEnds_12 : decode cX8_workEnds 12 = .ok (.istore_n 3, 1) := by decide +kernel
theorem dX8_workEnds_13 : decode cX8_workEnds 13 = .ok (.iload_n 3, 1) := by decide +kernel
theorem dX8_workEnds_14 : decode cX8_workEnds 14 = .ok (.aload_n 0, 1) := by decide +kernel
theorem dX8_workEnds_15 : decode cX8_workEnds 15 = .ok (.getfield 9, 3) := by decide +kernel
theorem dX8_workEnds_18 : decode cX8_workEnds 18 = .ok (.iload_n 1, 1) := by decide +kernel
theorem dX8_workEnds_19 : decode cX8_workEnds 19 = .ok (.iaload, 1) := by decide +kernel
theorem dX8_workEnds_20 : decode cX8_workEnds 20 = .ok (.if_icmp .ge 162, 3) := by decide +kernel
theorem dX8_workEnds_23 : decode cX8_workEnds 23 = .ok (.iload_n 2, 1) := by decide +kernel
theorem dX8_workEnds_24 : decode cX8_workEnds 24 = .ok (.bipush 8, 2) := by decide +kernel
theorem dX8_workEnds_26 : decode cX8_workEnds 26 = .ok (.imul, 1) := by decide +kernel
theorem dX8_workEnds_27 : decode cX8_workEnds 27 = .ok (.iload_n 3, 1) := by decide +kernel
theorem dX8_workEnds_28 : decode cX8_workEnds 28 = .ok (.iadd, 1) := by decide +kernel
theorem dX8_workEnds_29 : decode cX8_workEnds 29 = .ok (.istore 4, 2) := by decide +kernel
theorem dX8_workEnds_31 : decode cX8_workEnds 31 = .ok (.aload_n 0, 1) := by decide +kernel
theorem dX8_workEnds_32 : decode cX8_workEnds 32 = .ok (.iload_n 1, 1) := by decide +kernel
theorem dX8_workEnds_33 : decode cX8_workEnds 33 = .ok (.iload_n 3, 1) := by decide +kernel
theorem dX8_workEnds_34 : decode cX8_workEnds 34 = .ok (.aload_n 0, 1) := by decide +kernel
theorem dX8_workEnds_35 : decode cX8_workEnds 35 = .ok (.getfield 28, 3) := by decide +kernel
theorem dX8_workEnds_38 : decode cX8_workEnds 38 = .ok (.iload_n 2, 1) := by decide +kernel
theorem dX8_workEnds_39 : decode cX8_workEnds 39 = .ok (.iaload, 1) := by decide +kernel
theorem dX8_workEnds_40 : decode cX8_workEnds 40 = .ok (.invokevirtual 120, 3) := by decide +kernel
theorem dX8_workEnds_43 : decode cX8_workEnds 43 = .ok (.istore 5, 2) := by decide +kernel
theorem dX8_workEnds_45 : decode cX8_workEnds 45 = .ok (.aload_n 0, 1) := by decide +kernel
theorem dX8_workEnds_46 : decode cX8_workEnds 46 = .ok (.getfield 56, 3) := by decide +kernel
theorem dX8_workEnds_49 : decode cX8_workEnds 49 = .ok (.iload 4, 2) := by decide +kernel
theorem dX8_workEnds_51 : decode cX8_workEnds 51 = .ok (.iconst 0, 1) := by decide +kernel
theorem dX8_workEnds_52 : decode cX8_workEnds 52 = .ok (.iastore, 1) := by decide +kernel
theorem dX8_workEnds_53 : decode cX8_workEnds 53 = .ok (.iload_n 2, 1) := by decide +kernel
theorem dX8_workEnds_54 : decode cX8_workEnds 54 = .ok (.aload_n 0, 1) := by decide +kernel
theorem dX8_workEnds_55 : decode cX8_workEnds 55 = .ok (.getfield 126, 3) := by decide +kernel
theorem dX8_workEnds_58 : decode cX8_workEnds 58 = .ok (.iconst 1, 1) := by decide +kernel
theorem dX8_workEnds_59 : decode cX8_workEnds 59 = .ok (.isub, 1) := by decide +kernel
theorem dX8_workEnds_60 : decode cX8_workEnds 60 = .ok (.if_icmp .ne 50, 3) := by decide +kernel
theorem dX8_workEnds_63 : decode cX8_workEnds 63 = .ok (.aload_n 0, 1) := by decide +kernel
theorem dX8_workEnds_64 : decode cX8_workEnds 64 = .ok (.getfield 47, 3) := by decide +kernel
theorem dX8_workEnds_67 : decode cX8_workEnds 67 = .ok (.iload 4, 2) := by decide +kernel
theorem dX8_workEnds_69 : decode cX8_workEnds 69 = .ok (.bipush 20, 2) := by decide +kernel
theorem dX8_workEnds_71 : decode cX8_workEnds 71 = .ok (.imul, 1) := by decide +kernel
theorem dX8_workEnds_72 : decode cX8_workEnds 72 = .ok (.aaload, 1) := by decide +kernel

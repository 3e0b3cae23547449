theorem dX13_init_163 : decode cX13_init 163 = .ok (.newarray .int, 2) := by decide +kernel
theorem dX13_init_165 : decode cX13_init 165 = .ok (.putfield 69, 3) := by decide +kernel
theorem dX13_init_168 : decode cX13_init 168 = .ok (.aload_n 0, 1) := by decide +kernel
theorem dX13_init_169 : decode cX13_init 169 = .ok (.bipush 32, 2) := by decide +kernel
theorem dX13_init_171 : decode cX13_init 171 = .ok (.newarray .int, 2) := by decide +kernel
theorem dX13_init_173 : decode cX13_init 173 = .ok (.putfield 72, 3) := by decide +kernel
theorem dX13_init_176 : decode cX13_init 176 = .ok (.aload_n 0, 1) := by decide +kernel
theorem dX13_init_177 : decode cX13_init 177 = .ok (.bipush 8, 2) := by decide +kernel
theorem dX13_init_179 : decode cX13_init 179 = .ok (.newarray .int, 2) := by decide +kernel
theorem dX13_init_181 : decode cX13_init 181 = .ok (.putfield 75, 3) := by decide +kernel
theorem dX13_init_184 : decode cX13_init 184 = .ok (.aload_n 0, 1) := by decide +kernel
theorem dX13_init_185 : decode cX13_init 185 = .ok (.sipush 512, 3) := by decide +kernel
theorem dX13_init_188 : decode cX13_init 188 = .ok (.newarray .int, 2) := by decide +kernel
theorem dX13_init_190 : decode cX13_init 190 = .ok (.putfield 78, 3) := by decide +kernel
theorem dX13_init_193 : decode cX13_init 193 = .ok (.aload_n 0, 1) := by decide +kernel
theorem dX13_init_194 : decode cX13_init 194 = .ok (.bipush 32, 2) := by decide +kernel
theorem dX13_init_196 : decode cX13_init 196 = .ok (.newarray .int, 2) := by decide +kernel
theorem dX13_init_198 : decode cX13_init 198 = .ok (.putfield 81, 3) := by decide +kernel
theorem dX13_init_201 : decode cX13_init 201 = .ok (.aload_n 0, 1) := by decide +kernel
theorem dX13_init_202 : decode cX13_init 202 = .ok (.bipush 32, 2) := by decide +kernel
theorem dX13_init_204 : decode cX13_init 204 = .ok (.newarray .long, 2) := by decide +kernel
theorem dX13_init_206 : decode cX13_init 206 = .ok (.putfield 84, 3) := by decide +kernel
theorem dX13_init_209 : decode cX13_init 209 = .ok (.aload_n 0, 1) := by decide +kernel
theorem dX13_init_210 : decode cX13_init 210 = .ok (.bipush 32, 2) := by decide +kernel
theorem dX13_init_212 : decode cX13_init 212 = .ok (.newarray .int, 2) := by decide +kernel
theorem dX13_init_214 : decode cX13_init 214 = .ok (.putfield 87, 3) := by decide +kernel
theorem dX13_init_217 : decode cX13_init 217 = .ok (.aload_n 0, 1) := by decide +kernel
theorem dX13_init_218 : decode cX13_init 218 = .ok (.sipush 512, 3) := by decide +kernel
theorem dX13_init_221 : decode cX13_init 221 = .ok (.newarray .int, 2) := by decide +kernel
theorem dX13_init_223 : decode cX13_init 223 = .ok (.putfield 90, 3) := by decide +kernel
theorem dX13_init_226 : decode cX13_init 226 = .ok (.aload_n 0, 1) := by decide +kernel
theorem dX13_init_227 : decode cX13_init 227 = .ok (.bipush 32, 2) := by decide +kernel
theorem dX13_init_229 : decode cX13_init 229 = .ok (.newarray .long, 2) := by decide +kernel
theorem dX13_init_231 : decode cX13_init 231 = .ok (.putfield 93, 3) := by decide +kernel
theorem dX13_init_234 : decode cX13_init 234 = .ok (.aload_n 0, 1) := by decide +kernel
theorem dX13_init_235 : decode cX13_init 235 = .ok (.bipush 8, 2) := by decide +kernel
theorem dX13_init_237 : decode cX13_init 237 = .ok (.newarray .int, 2) := by decide +kernel
theorem dX13_init_239 : decode cX13_init 239 = .ok (.putfield 96, 3) := by decide +kernel
theorem dX13_init_242 : decode cX13_init 242 = .ok (.aload_n 0, 1) := by decide +kernel
theorem dX13_init_243 : decode cX13_init 243 = .ok (.bipush 8, 2) := by decide +kernel
theorem dX13_init_245 : decode cX13_init 245 = .ok (.newarray .int, 2) := by decide +kernel
theorem dX13_init_247 : decode cX13_init 247 = .ok (.putfield 99, 3) := by decide +kernel
theorem dX13_init_250 : decode cX13_init 250 = .ok (.aload_n 0, 1) := by decide +kernel
theorem dX13_init_251 : decode cX13_init 251 = .ok (.sipush 192, 3) := by decide +kernel
theorem dX13_init_254 : decode cX13_init 254 = .ok (.newarray .int, 2) := by decide +kernel
theorem dX13_init_256 : decode cX13_init 256 = .ok (.putfield 102, 3) := by decide +kernel
theorem dX13_init_259 : decode cX13_init 259 = .ok (.aload_n 0, 1) := by decide +kernel
theorem dX13_init_260 : decode cX13_init 260 = .ok (.sipush 192, 3) := by decide +kernel
theorem dX13_init_263 : decode cX13_init 263 = .ok (.newarray .int, 2) := by decide +kernel
theorem dX13_init_265 : decode cX13_init 265 = .ok (.putfield 105, 3) := by decide +kernel
theorem dX13_init_268 : decode cX13_init 268 = .ok (.aload_n 0, 1) := by decide +kernel
theorem dX13_init_269 : decode cX13_init 269 = .ok (.sipush 192, 3) := by decide +kernel
theorem dX13_init_272 : decode cX13_init 272 = .ok (.newarray .int, 2) := by decide +kernel
theorem dX13_init_274 : decode cX13_init 274 = .ok (.putfield 108, 3) := by decide +kernel
theorem dX13_init_277 : decode cX13_init 277 = .ok (.aload_n 0, 1) := by decide +kernel
theorem dX13_init_278 : decode cX13_init 278 = .ok (.sipush 192, 3) := by decide +kernel
theorem dX13_init_281 : decode cX13_init 281 = .ok (.newarray .long, 2) := by decide +kernel
theorem dX13_init_283 : decode cX13_init 283 = .ok (.putfield 111, 3) := by decide +kernel
theorem dX13_init_286 : decode cX13_init 286 = .ok (.aload_n 0, 1) := by decide +kernel
theorem dX13_init_287 : decode cX13_init 287 = .ok (.sipush 192, 3) := by decide +kernel
theorem dX13_init_290 : decode cX13_init 290 = .ok (.newarray .long, 2) := by decide +kernel
theorem dX13_init_292 : decode cX13_init 292 = .ok (.putfield 114, 3) := by decide +kernel
theorem dX13_init_295 : decode cX13_init 295 = .ok (.aload_n 0, 1) := by decide +kernel
theorem dX13_init_296 : decode cX13_init 296 = .ok (.sipush 192, 3) := by decide +kernel
theorem dX13_init_299 : decode cX13_init 299 = .ok (.newarray .boolean, 2) := by decide +kernel
theorem dX13_init_301 : decode cX13_init 301 = .ok (.putfield 117, 3) := by decide +kernel
theorem dX13_init_304 : decode cX13_init 304 = .ok (.aload_n 0, 1) := by decide +kernel
theorem dX13_init_305 : decode cX13_init 305 = .ok (.sipush 192, 3) := by decide +kernel
theorem dX13_init_308 : decode cX13_init 308 = .ok (.newarray .int, 2) := by decide +kernel
theorem dX13_init_310 : decode cX13_init 310 = .ok (.putfield 120, 3) := by decide +kernel
theorem dX13_init_313 : decode cX13_init 313 = .ok (.aload_n 0, 1) := by decide +kernel
theorem dX13_init_314 : decode cX13_init 314 = .ok (.sipush 3072, 3) := by decide +kernel
theorem dX13_init_317 : decode cX13_init 317 = .ok (.newarray .int, 2) := by decide +kernel
theorem dX13_init_319 : decode cX13_init 319 = .ok (.putfield 123, 3) := by decide +kernel
theorem dX13_init_322 : decode cX13_init 322 = .ok (.aload_n 0, 1) := by decide +kernel
theorem dX13_init_323 : decode cX13_init 323 = .ok (.sipush 3072, 3) := by decide +kernel
theorem dX13_init_326 : decode cX13_init 326 = .ok (.newarray .int, 2) := by decide +kernel
theorem dX13_init_328 : decode cX13_init 328 = .ok (.putfield 126, 3) := by decide +kernel
theorem dX13_init_331 : decode cX13_init 331 = .ok (.aload_n 0, 1) := by decide +kernel
theorem dX13_init_332 : decode cX13_init 332 = .ok (.ldc 129, 2) := by decide +kernel
theorem dX13_init_334 : decode cX13_init 334 = .ok (.newarray .int, 2) := by decide +kernel
theorem dX13_init_336 : decode cX13_init 336 = .ok (.putfield 130, 3) := by decide +kernel
theorem dX13_init_339 : decode cX13_init 339 = .ok (.aload_n 0, 1) := by decide +kernel
theorem dX13_init_340 : decode cX13_init 340 = .ok (.sipush 800, 3) := by decide +kernel
theorem dX13_init_343 : decode cX13_init 343 = .ok (.newarray .int, 2) := by decide +kernel
theorem dX13_init_345 : decode cX13_init 345 = .ok (.putfield 133, 3) := by decide +kernel
theorem dX13_init_348 : decode cX13_init 348 = .ok (.aload_n 0, 1) := by decide +kernel
theorem dX13_init_349 : decode cX13_init 349 = .ok (.sipush 800, 3) := by decide +kernel
theorem dX13_init_352 : decode cX13_init 352 = .ok (.newarray .int, 2) := by decide +kernel
theorem dX13_init_354 : decode cX13_init 354 = .ok (.putfield 136, 3) := by decide +kernel
theorem dX13_init_357 : decode cX13_init 357 = .ok (.aload_n 0, 1) := by decide +kernel
theorem dX13_init_358 : decode cX13_init 358 = .ok (.sipush 800, 3) := by decide +kernel
theorem dX13_init_361 : decode cX13_init 361 = .ok (.newarray .int, 2) := by decide +kernel
theorem dX13_init_363 : decode cX13_init 363 = .ok (.putfield 139, 3) := by decide +kernel
theorem dX13_init_366 : decode cX13_init 366 = .ok (.aload_n 0, 1) := by decide +kernel
theorem dX13_init_367 : decode cX13_init 367 = .ok (.bipush 11, 2) := by decide +kernel
theorem dX13_init_369 : decode cX13_init 369 = .ok (.newarray .int, 2) := by decide +kernel
theorem dX13_init_371 : decode cX13_init 371 = .ok (.putfield 142, 3) := by decide +kernel
theorem dX13_init_374 : decode cX13_init 374 = .ok (.aload_n 0, 1) := by decide +kernel
theorem dX13_init_375 : decode cX13_init 375 = .ok (.sipush 200, 3) := by decide +kernel
theorem dX13_init_378 : decode cX13_init 378 = .ok (.newarray .int, 2) := by decide +kernel
theorem dX13_init_380 : decode cX13_init 380 = .ok (.putfield 145, 3) := by decide +kernel
theorem dX13_init_383 : decode cX13_init 383 = .ok (.aload_n 0, 1) := by decide +kernel
theorem dX13_init_384 : decode cX13_init 384 = .ok (.bipush 16, 2) := by decide +kernel
theorem dX13_init_386 : decode cX13_init 386 = .ok (.newarray .int, 2) := by decide +kernel
theorem dX13_init_388 : decode cX13_init 388 = .ok (.putfield 148, 3) := by decide +kernel
theorem dX13_init_391 : decode cX13_init 391 = .ok (.aload_n 0, 1) := by decide +kernel
theorem dX13_init_392 : decode cX13_init 392 = .ok (.sipush 260, 3) := by decide +kernel
theorem dX13_init_395 : decode cX13_init 395 = .ok (.newarray .int, 2) := by decide +kernel
theorem dX13_init_397 : decode cX13_init 397 = .ok (.putfield 151, 3) := by decide +kernel
theorem dX13_init_400 : decode cX13_init 400 = .ok (.aload_n 0, 1) := by decide +kernel
theorem dX13_init_401 : decode cX13_init 401 = .ok (.bipush 24, 2) := by decide +kernel
theorem dX13_init_403 : decode cX13_init 403 = .ok (.newarray .int, 2) := by decide +kernel
theorem dX13_init_405 : decode cX13_init 405 = .ok (.putfield 154, 3) := by decide +kernel
theorem dX13_init_408 : decode cX13_init 408 = .ok (.aload_n 0, 1) := by decide +kernel
theorem dX13_init_409 : decode cX13_init 409 = .ok (.sipush 384, 3) := by decide +kernel
theorem dX13_init_412 : decode cX13_init 412 = .ok (.newarray .int, 2) := by decide +kernel
theorem dX13_init_414 : decode cX13_init 414 = .ok (.putfield 157, 3) := by decide +kernel
theorem dX13_init_417 : decode cX13_init 417 = .ok (.aload_n 0, 1) := by decide +kernel
theorem dX13_init_418 : decode cX13_init 418 = .ok (.sipush 200, 3) := by decide +kernel
theorem dX13_init_421 : decode cX13_init 421 = .ok (.newarray .int, 2) := by decide +kernel
theorem dX13_init_423 : decode cX13_init 423 = .ok (.putfield 160, 3) := by decide +kernel
theorem dX13_init_426 : decode cX13_init 426 = .ok (.aload_n 0, 1) := by decide +kernel
theorem dX13_init_427 : decode cX13_init 427 = .ok (.sipush 200, 3) := by decide +kernel
theorem dX13_init_430 : decode cX13_init 430 = .ok (.newarray .boolean, 2) := by decide +kernel
theorem dX13_init_432 : decode cX13_init 432 = .ok (.putfield 163, 3) := by decide +kernel
theorem dX13_init_435 : decode cX13_init 435 = .ok (.aload_n 0, 1) := by decide +kernel
theorem dX13_init_436 : decode cX13_init 436 = .ok (.sipush 512, 3) := by decide +kernel
theorem dX13_init_439 : decode cX13_init 439 = .ok (.newarray .int, 2) := by decide +kernel
theorem dX13_init_441 : decode cX13_init 441 = .ok (.putfield 166, 3) := by decide +kernel
theorem dX13_init_444 : decode cX13_init 444 = .ok (.aload_n 0, 1) := by decide +kernel
theorem dX13_init_445 : decode cX13_init 445 = .ok (.sipush 512, 3) := by decide +kernel
theorem dX13_init_448 : decode cX13_init 448 = .ok (.newarray .int, 2) := by decide +kernel
theorem dX13_init_450 : decode cX13_init 450 = .ok (.putfield 169, 3) := by decide +kernel
theorem dX13_init_453 : decode cX13_init 453 = .ok (.aload_n 0, 1) := by decide +kernel
theorem dX13_init_454 : decode cX13_init 454 = .ok (.bipush 16, 2) := by decide +kernel
theorem dX13_init_456 : decode cX13_init 456 = .ok (.newarray .int, 2) := by decide +kernel
theorem dX13_init_458 : decode cX13_init 458 = .ok (.putfield 172, 3) := by decide +kernel
theorem dX13_init_461 : decode cX13_init 461 = .ok (.aload_n 0, 1) := by decide +kernel
theorem dX13_init_462 : decode cX13_init 462 = .ok (.bipush 16, 2) := by decide +kernel
theorem dX13_init_464 : decode cX13_init 464 = .ok (.newarray .int, 2) := by decide +kernel
theorem dX13_init_466 : decode cX13_init 466 = .ok (.putfield 175, 3) := by decide +kernel
theorem dX13_init_469 : decode cX13_init 469 = .ok (.aload_n 0, 1) := by decide +kernel
theorem dX13_init_470 : decode cX13_init 470 = .ok (.bipush 16, 2) := by decide +kernel
theorem dX13_init_472 : decode cX13_init 472 = .ok (.newarray .int, 2) := by decide +kernel
theorem dX13_init_474 : decode cX13_init 474 = .ok (.putfield 178, 3) := by decide +kernel
theorem dX13_init_477 : decode cX13_init 477 = .ok (.aload_n 0, 1) := by decide +kernel
theorem dX13_init_478 : decode cX13_init 478 = .ok (.bipush 16, 2) := by decide +kernel
theorem dX13_init_480 : decode cX13_init 480 = .ok (.newarray .int, 2) := by decide +kernel
theorem dX13_init_482 : decode cX13_init 482 = .ok (.putfield 181, 3) := by decide +kernel
theorem dX13_init_485 : decode cX13_init 485 = .ok (.aload_n 0, 1) := by decide +kernel
theorem dX13_init_486 : decode cX13_init 486 = .ok (.getfield 142, 3) := by decide +kernel
theorem dX13_init_489 : decode cX13_init 489 = .ok (.bipush 10, 2) := by decide +kernel
theorem dX13_init_491 : decode cX13_init 491 = .ok (.iconst (-1), 1) := by decide +kernel
theorem dX13_init_492 : decode cX13_init 492 = .ok (.iastore, 1) := by decide +kernel
theorem dX13_init_493 : decode cX13_init 493 = .ok (.return_, 1) := by decide +kernel
theorem dX13_thrown_0 : decode cX13_thrown 0 = .ok (.aload_n 0, 1) := by decide +kernel
theorem dX13_thrown_1 : decode cX13_thrown 1 = .ok (.getfield 184, 3) := by decide +kernel
theorem dX13_thrown_4 : decode cX13_thrown 4 = .ok (.ireturn, 1) := by decide +kernel
theorem dX13_feed_0 : decode cX13_feed 0 = .ok (.aload_n 0, 1) := by decide +kernel
theorem dX13_feed_1 : decode cX13_feed 1 = .ok (.iconst 0, 1) := by decide +kernel
theorem dX13_feed_2 : decode cX13_feed 2 = .ok (.putfield 184, 3) := by decide +kernel
theorem dX13_feed_5 : decode cX13_feed 5 = .ok (.aload_n 0, 1) := by decide +kernel
theorem dX13_feed_6 : decode cX13_feed 6 = .ok (.getfield 188, 3) := by decide +kernel
theorem dX13_feed_9 : decode cX13_feed 9 = .ok (.bipush 20, 2) := by decide +kernel
theorem dX13_feed_11 : decode cX13_feed 11 = .ok (.iadd, 1) := by decide +kernel
theorem dX13_feed_12 : decode cX13_feed 12 = .ok (.sipush 200, 3) := by decide +kernel
theorem dX13_feed_15 : decode cX13_feed 15 = .ok (.if_icmp .le 5, 3) := by decide +kernel
theorem dX13_feed_18 : decode cX13_feed 18 = .ok (.iconst (-1), 1) := by decide +kernel
theorem dX13_feed_19 : decode cX13_feed 19 = .ok (.ireturn, 1) := by decide +kernel
theorem dX13_feed_20 : decode cX13_feed 20 = .ok (.iconst 0, 1) := by decide +kernel
theorem dX13_feed_21 : decode cX13_feed 21 = .ok (.istore 6, 2) := by decide +kernel
theorem dX13_feed_23 : decode cX13_feed 23 = .ok (.iload 6, 2) := by decide +kernel
theorem dX13_feed_25 : decode cX13_feed 25 = .ok (.bipush 20, 2) := by decide +kernel
theorem dX13_feed_27 : decode cX13_feed 27 = .ok (.if_icmp .ge 86, 3) := by decide +kernel
theorem dX13_feed_30 : decode cX13_feed 30 = .ok (.iload 6, 2) := by decide +kernel
theorem dX13_feed_32 : decode cX13_feed 32 = .ok (.iconst 4, 1) := by decide +kernel
theorem dX13_feed_33 : decode cX13_feed 33 = .ok (.if_icmp .ge 7, 3) := by decide +kernel
theorem dX13_feed_36 : decode cX13_feed 36 = .ok (.iload_n 1, 1) := by decide +kernel
theorem dX13_feed_37 : decode cX13_feed 37 = .ok (.goto 39, 3) := by decide +kernel
theorem dX13_feed_40 : decode cX13_feed 40 = .ok (.iload 6, 2) := by decide +kernel
theorem dX13_feed_42 : decode cX13_feed 42 = .ok (.bipush 8, 2) := by decide +kernel
theorem dX13_feed_44 : decode cX13_feed 44 = .ok (.if_icmp .ge 7, 3) := by decide +kernel
theorem dX13_feed_47 : decode cX13_feed 47 = .ok (.iload_n 2, 1) := by decide +kernel
theorem dX13_feed_48 : decode cX13_feed 48 = .ok (.goto 28, 3) := by decide +kernel
theorem dX13_feed_51 : decode cX13_feed 51 = .ok (.iload 6, 2) := by decide +kernel
theorem dX13_feed_53 : decode cX13_feed 53 = .ok (.bipush 12, 2) := by decide +kernel
theorem dX13_feed_55 : decode cX13_feed 55 = .ok (.if_icmp .ge 7, 3) := by decide +kernel
theorem dX13_feed_58 : decode cX13_feed 58 = .ok (.iload_n 3, 1) := by decide +kernel
theorem dX13_feed_59 : decode cX13_feed 59 = .ok (.goto 17, 3) := by decide +kernel
theorem dX13_feed_62 : decode cX13_feed 62 = .ok (.iload 6, 2) := by decide +kernel
theorem dX13_feed_64 : decode cX13_feed 64 = .ok (.bipush 16, 2) := by decide +kernel
theorem dX13_feed_66 : decode cX13_feed 66 = .ok (.if_icmp .ge 8, 3) := by decide +kernel
theorem dX13_feed_69 : decode cX13_feed 69 = .ok (.iload 4, 2) := by decide +kernel
theorem dX13_feed_71 : decode cX13_feed 71 = .ok (.goto 5, 3) := by decide +kernel
theorem dX13_feed_74 : decode cX13_feed 74 = .ok (.iload 5, 2) := by decide +kernel
theorem dX13_feed_76 : decode cX13_feed 76 = .ok (.istore 7, 2) := by decide +kernel
theorem dX13_feed_78 : decode cX13_feed 78 = .ok (.aload_n 0, 1) := by decide +kernel
theorem dX13_feed_79 : decode cX13_feed 79 = .ok (.getfield 7, 3) := by decide +kernel
theorem dX13_feed_82 : decode cX13_feed 82 = .ok (.aload_n 0, 1) := by decide +kernel
theorem dX13_feed_83 : decode cX13_feed 83 = .ok (.getfield 188, 3) := by decide +kernel
theorem dX13_feed_86 : decode cX13_feed 86 = .ok (.iload 6, 2) := by decide +kernel
theorem dX13_feed_88 : decode cX13_feed 88 = .ok (.iadd, 1) := by decide +kernel
theorem dX13_feed_89 : decode cX13_feed 89 = .ok (.iload 7, 2) := by decide +kernel
theorem dX13_feed_91 : decode cX13_feed 91 = .ok (.bipush 24, 2) := by decide +kernel
theorem dX13_feed_93 : decode cX13_feed 93 = .ok (.bipush 8, 2) := by decide +kernel
theorem dX13_feed_95 : decode cX13_feed 95 = .ok (.iload 6, 2) := by decide +kernel
theorem dX13_feed_97 : decode cX13_feed 97 = .ok (.iconst 4, 1) := by decide +kernel
theorem dX13_feed_98 : decode cX13_feed 98 = .ok (.irem, 1) := by decide +kernel
theorem dX13_feed_99 : decode cX13_feed 99 = .ok (.imul, 1) := by decide +kernel
theorem dX13_feed_100 : decode cX13_feed 100 = .ok (.isub, 1) := by decide +kernel
theorem dX13_feed_101 : decode cX13_feed 101 = .ok (.ishr, 1) := by decide +kernel
theorem dX13_feed_102 : decode cX13_feed 102 = .ok (.sipush 255, 3) := by decide +kernel
theorem dX13_feed_105 : decode cX13_feed 105 = .ok (.iand, 1) := by decide +kernel
theorem dX13_feed_106 : decode cX13_feed 106 = .ok (.iastore, 1) := by decide +kernel
theorem dX13_feed_107 : decode cX13_feed 107 = .ok (.iinc 6 1, 3) := by decide +kernel
theorem dX13_feed_110 : decode cX13_feed 110 = .ok (.goto (-87), 3) := by decide +kernel
theorem dX13_feed_113 : decode cX13_feed 113 = .ok (.aload_n 0, 1) := by decide +kernel
theorem dX13_feed_114 : decode cX13_feed 114 = .ok (.dup, 1) := by decide +kernel
theorem dX13_feed_115 : decode cX13_feed 115 = .ok (.getfield 188, 3) := by decide +kernel
theorem dX13_feed_118 : decode cX13_feed 118 = .ok (.bipush 20, 2) := by decide +kernel
theorem dX13_feed_120 : decode cX13_feed 120 = .ok (.iadd, 1) := by decide +kernel
theorem dX13_feed_121 : decode cX13_feed 121 = .ok (.putfield 188, 3) := by decide +kernel
theorem dX13_feed_124 : decode cX13_feed 124 = .ok (.aload_n 0, 1) := by decide +kernel
theorem dX13_feed_125 : decode cX13_feed 125 = .ok (.getfield 188, 3) := by decide +kernel
theorem dX13_feed_128 : decode cX13_feed 128 = .ok (.ireturn, 1) := by decide +kernel
theorem dX13_end_0 : decode cX13_end 0 = .ok (.aload_n 0, 1) := by decide +kernel
theorem dX13_end_1 : decode cX13_end 1 = .ok (.iconst 0, 1) := by decide +kernel
theorem dX13_end_2 : decode cX13_end 2 = .ok (.putfield 184, 3) := by decide +kernel
theorem dX13_end_5 : decode cX13_end 5 = .ok (.iload_n 1, 1) := by decide +kernel
theorem dX13_end_6 : decode cX13_end 6 = .ok (.ifCond .lt 11, 3) := by decide +kernel
theorem dX13_end_9 : decode cX13_end 9 = .ok (.iload_n 1, 1) := by decide +kernel
theorem dX13_end_10 : decode cX13_end 10 = .ok (.aload_n 0, 1) := by decide +kernel
theorem dX13_end_11 : decode cX13_end 11 = .ok (.getfield 188, 3) := by decide +kernel
theorem dX13_end_14 : decode cX13_end 14 = .ok (.if_icmp .le 5, 3) := by decide +kernel
theorem dX13_end_17 : decode cX13_end 17 = .ok (.iconst (-1), 1) := by decide +kernel
theorem dX13_end_18 : decode cX13_end 18 = .ok (.ireturn, 1) := by decide +kernel
theorem dX13_end_19 : decode cX13_end 19 = .ok (.aload_n 0, 1) := by decide +kernel
theorem dX13_end_20 : decode cX13_end 20 = .ok (.iload_n 1, 1) := by decide +kernel
theorem dX13_end_21 : decode cX13_end 21 = .ok (.putfield 188, 3) := by decide +kernel
theorem dX13_end_24 : decode cX13_end 24 = .ok (.iload_n 1, 1) := by decide +kernel
theorem dX13_end_25 : decode cX13_end 25 = .ok (.ireturn, 1) := by decide +kernel
theorem dX13_takesWord_0 : decode cX13_takesWord 0 = .ok (.aload_n 0, 1) := by decide +kernel
theorem dX13_takesWord_1 : decode cX13_takesWord 1 = .ok (.getfield 188, 3) := by decide +kernel
theorem dX13_takesWord_4 : decode cX13_takesWord 4 = .ok (.istore_n 1, 1) := by decide +kernel
theorem dX13_takesWord_5 : decode cX13_takesWord 5 = .ok (.aload_n 0, 1) := by decide +kernel
theorem dX13_takesWord_6 : decode cX13_takesWord 6 = .ok (.iconst 0, 1) := by decide +kernel
theorem dX13_takesWord_7 : decode cX13_takesWord 7 = .ok (.putfield 188, 3) := by decide +kernel
theorem dX13_takesWord_10 : decode cX13_takesWord 10 = .ok (.iload_n 1, 1) := by decide +kernel
theorem dX13_takesWord_11 : decode cX13_takesWord 11 = .ok (.iconst 1, 1) := by decide +kernel
theorem dX13_takesWord_12 : decode cX13_takesWord 12 = .ok (.if_icmp .lt 9, 3) := by decide +kernel
theorem dX13_takesWord_15 : decode cX13_takesWord 15 = .ok (.iload_n 1, 1) := by decide +kernel
theorem dX13_takesWord_16 : decode cX13_takesWord 16 = .ok (.bipush 15, 2) := by decide +kernel
theorem dX13_takesWord_18 : decode cX13_takesWord 18 = .ok (.if_icmp .le 5, 3) := by decide +kernel
theorem dX13_takesWord_21 : decode cX13_takesWord 21 = .ok (.iconst 0, 1) := by decide +kernel
theorem dX13_takesWord_22 : decode cX13_takesWord 22 = .ok (.ireturn, 1) := by decide +kernel
theorem dX13_takesWord_23 : decode cX13_takesWord 23 = .ok (.aload_n 0, 1) := by decide +kernel
theorem dX13_takesWord_24 : decode cX13_takesWord 24 = .ok (.getfield 148, 3) := by decide +kernel
theorem dX13_takesWord_27 : decode cX13_takesWord 27 = .ok (.iconst 0, 1) := by decide +kernel
theorem dX13_takesWord_28 : decode cX13_takesWord 28 = .ok (.iload_n 1, 1) := by decide +kernel
theorem dX13_takesWord_29 : decode cX13_takesWord 29 = .ok (.iastore, 1) := by decide +kernel
theorem dX13_takesWord_30 : decode cX13_takesWord 30 = .ok (.iconst 1, 1) := by decide +kernel
theorem dX13_takesWord_31 : decode cX13_takesWord 31 = .ok (.istore_n 2, 1) := by decide +kernel
theorem dX13_takesWord_32 : decode cX13_takesWord 32 = .ok (.iconst 0, 1) := by decide +kernel
theorem dX13_takesWord_33 : decode cX13_takesWord 33 = .ok (.istore_n 3, 1) := by decide +kernel
theorem dX13_takesWord_34 : decode cX13_takesWord 34 = .ok (.iload_n 3, 1) := by decide +kernel
theorem dX13_takesWord_35 : decode cX13_takesWord 35 = .ok (.iload_n 1, 1) := by decide +kernel
theorem dX13_takesWord_36 : decode cX13_takesWord 36 = .ok (.if_icmp .ge 45, 3) := by decide +kernel
theorem dX13_takesWord_39 : decode cX13_takesWord 39 = .ok (.aload_n 0, 1) := by decide +kernel
theorem dX13_takesWord_40 : decode cX13_takesWord 40 = .ok (.getfield 148, 3) := by decide +kernel
theorem dX13_takesWord_43 : decode cX13_takesWord 43 = .ok (.iconst 1, 1) := by decide +kernel
theorem dX13_takesWord_44 : decode cX13_takesWord 44 = .ok (.iload_n 3, 1) := by decide +kernel
theorem dX13_takesWord_45 : decode cX13_takesWord 45 = .ok (.iadd, 1) := by decide +kernel
theorem dX13_takesWord_46 : decode cX13_takesWord 46 = .ok (.aload_n 0, 1) := by decide +kernel
theorem dX13_takesWord_47 : decode cX13_takesWord 47 = .ok (.getfield 7, 3) := by decide +kernel
theorem dX13_takesWord_50 : decode cX13_takesWord 50 = .ok (.iload_n 3, 1) := by decide +kernel
theorem dX13_takesWord_51 : decode cX13_takesWord 51 = .ok (.iaload, 1) := by decide +kernel
theorem dX13_takesWord_52 : decode cX13_takesWord 52 = .ok (.iastore, 1) := by decide +kernel
theorem dX13_takesWord_53 : decode cX13_takesWord 53 = .ok (.iload_n 2, 1) := by decide +kernel
theorem dX13_takesWord_54 : decode cX13_takesWord 54 = .ok (.ifCond .eq 19, 3) := by decide +kernel
theorem dX13_takesWord_57 : decode cX13_takesWord 57 = .ok (.aload_n 0, 1) := by decide +kernel
theorem dX13_takesWord_58 : decode cX13_takesWord 58 = .ok (.getfield 7, 3) := by decide +kernel
theorem dX13_takesWord_61 : decode cX13_takesWord 61 = .ok (.iload_n 3, 1) := by decide +kernel
theorem dX13_takesWord_62 : decode cX13_takesWord 62 = .ok (.iaload, 1) := by decide +kernel
theorem dX13_takesWord_63 : decode cX13_takesWord 63 = .ok (.invokestatic 195, 3) := by decide +kernel
theorem dX13_takesWord_66 : decode cX13_takesWord 66 = .ok (.ifCond .eq 7, 3) := by decide +kernel
theorem dX13_takesWord_69 : decode cX13_takesWord 69 = .ok (.iconst 1, 1) := by decide +kernel
theorem dX13_takesWord_70 : decode cX13_takesWord 70 = .ok (.goto 4, 3) := by decide +kernel
theorem dX13_takesWord_73 : decode cX13_takesWord 73 = .ok (.iconst 0, 1) := by decide +kernel
theorem dX13_takesWord_74 : decode cX13_takesWord 74 = .ok (.istore_n 2, 1) := by decide +kernel
theorem dX13_takesWord_75 : decode cX13_takesWord 75 = .ok (.iinc 3 1, 3) := by decide +kernel
theorem dX13_takesWord_78 : decode cX13_takesWord 78 = .ok (.goto (-44), 3) := by decide +kernel
theorem dX13_takesWord_81 : decode cX13_takesWord 81 = .ok (.iload_n 2, 1) := by decide +kernel
theorem dX13_takesWord_82 : decode cX13_takesWord 82 = .ok (.ireturn, 1) := by decide +kernel
theorem dX13_on_0 : decode cX13_on 0 = .ok (.aload_n 0, 1) := by decide +kernel
theorem dX13_on_1 : decode cX13_on 1 = .ok (.iconst 0, 1) := by decide +kernel
theorem dX13_on_2 : decode cX13_on 2 = .ok (.putfield 184, 3) := by decide +kernel
theorem dX13_on_5 : decode cX13_on 5 = .ok (.aload_n 0, 1) := by decide +kernel
theorem dX13_on_6 : decode cX13_on 6 = .ok (.iload_n 1, 1) := by decide +kernel
theorem dX13_on_7 : decode cX13_on 7 = .ok (.invokevirtual 386, 3) := by decide +kernel
theorem dX13_on_10 : decode cX13_on 10 = .ok (.ifCond .eq 24, 3) := by decide +kernel
theorem dX13_on_13 : decode cX13_on 13 = .ok (.aload_n 0, 1) := by decide +kernel
theorem dX13_on_14 : decode cX13_on 14 = .ok (.getfield 13, 3) := by decide +kernel
theorem dX13_on_17 : decode cX13_on 17 = .ok (.iload_n 1, 1) := by decide +kernel
theorem dX13_on_18 : decode cX13_on 18 = .ok (.baload, 1) := by decide +kernel
theorem dX13_on_19 : decode cX13_on 19 = .ok (.ifCond .ne 15, 3) := by decide +kernel
theorem dX13_on_22 : decode cX13_on 22 = .ok (.iload_n 2, 1) := by decide +kernel
theorem dX13_on_23 : decode cX13_on 23 = .ok (.iconst 1, 1) := by decide +kernel
theorem dX13_on_24 : decode cX13_on 24 = .ok (.if_icmp .lt 10, 3) := by decide +kernel
theorem dX13_on_27 : decode cX13_on 27 = .ok (.iload_n 2, 1) := by decide +kernel
theorem dX13_on_28 : decode cX13_on 28 = .ok (.ldc_w 389, 3) := by decide +kernel
theorem dX13_on_31 : decode cX13_on 31 = .ok (.if_icmp .le 5, 3) := by decide +kernel
theorem dX13_on_34 : decode cX13_on 34 = .ok (.iconst 0, 1) := by decide +kernel
theorem dX13_on_35 : decode cX13_on 35 = .ok (.ireturn, 1) := by decide +kernel
theorem dX13_on_36 : decode cX13_on 36 = .ok (.iconst 0, 1) := by decide +kernel
theorem dX13_on_37 : decode cX13_on 37 = .ok (.istore_n 3, 1) := by decide +kernel
theorem dX13_on_38 : decode cX13_on 38 = .ok (.iload_n 3, 1) := by decide +kernel
theorem dX13_on_39 : decode cX13_on 39 = .ok (.bipush 8, 2) := by decide +kernel
theorem dX13_on_41 : decode cX13_on 41 = .ok (.if_icmp .ge 30, 3) := by decide +kernel
theorem dX13_on_44 : decode cX13_on 44 = .ok (.aload_n 0, 1) := by decide +kernel
theorem dX13_on_45 : decode cX13_on 45 = .ok (.getfield 13, 3) := by decide +kernel
theorem dX13_on_48 : decode cX13_on 48 = .ok (.iload_n 3, 1) := by decide +kernel
theorem dX13_on_49 : decode cX13_on 49 = .ok (.baload, 1) := by decide +kernel
theorem dX13_on_50 : decode cX13_on 50 = .ok (.ifCond .eq 15, 3) := by decide +kernel
theorem dX13_on_53 : decode cX13_on 53 = .ok (.aload_n 0, 1) := by decide +kernel
theorem dX13_on_54 : decode cX13_on 54 = .ok (.getfield 17, 3) := by decide +kernel
theorem dX13_on_57 : decode cX13_on 57 = .ok (.iload_n 3, 1) := by decide +kernel
theorem dX13_on_58 : decode cX13_on 58 = .ok (.iaload, 1) := by decide +kernel
theorem dX13_on_59 : decode cX13_on 59 = .ok (.iload_n 2, 1) := by decide +kernel
theorem dX13_on_60 : decode cX13_on 60 = .ok (.if_icmp .ne 5, 3) := by decide +kernel
theorem dX13_on_63 : decode cX13_on 63 = .ok (.iconst 0, 1) := by decide +kernel
theorem dX13_on_64 : decode cX13_on 64 = .ok (.ireturn, 1) := by decide +kernel
theorem dX13_on_65 : decode cX13_on 65 = .ok (.iinc 3 1, 3) := by decide +kernel
theorem dX13_on_68 : decode cX13_on 68 = .ok (.goto (-30), 3) := by decide +kernel
theorem dX13_on_71 : decode cX13_on 71 = .ok (.aload_n 0, 1) := by decide +kernel
theorem dX13_on_72 : decode cX13_on 72 = .ok (.iload_n 1, 1) := by decide +kernel
theorem dX13_on_73 : decode cX13_on 73 = .ok (.invokevirtual 390, 3) := by decide +kernel
theorem dX13_on_76 : decode cX13_on 76 = .ok (.aload_n 0, 1) := by decide +kernel
theorem dX13_on_77 : decode cX13_on 77 = .ok (.getfield 13, 3) := by decide +kernel
theorem dX13_on_80 : decode cX13_on 80 = .ok (.iload_n 1, 1) := by decide +kernel
theorem dX13_on_81 : decode cX13_on 81 = .ok (.iconst 1, 1) := by decide +kernel
theorem dX13_on_82 : decode cX13_on 82 = .ok (.bastore, 1) := by decide +kernel
theorem dX13_on_83 : decode cX13_on 83 = .ok (.aload_n 0, 1) := by decide +kernel
theorem dX13_on_84 : decode cX13_on 84 = .ok (.getfield 17, 3) := by decide +kernel
theorem dX13_on_87 : decode cX13_on 87 = .ok (.iload_n 1, 1) := by decide +kernel
theorem dX13_on_88 : decode cX13_on 88 = .ok (.iload_n 2, 1) := by decide +kernel
theorem dX13_on_89 : decode cX13_on 89 = .ok (.iastore, 1) := by decide +kernel
theorem dX13_on_90 : decode cX13_on 90 = .ok (.aload_n 0, 1) := by decide +kernel
theorem dX13_on_91 : decode cX13_on 91 = .ok (.iload_n 1, 1) := by decide +kernel
theorem dX13_on_92 : decode cX13_on 92 = .ok (.invokevirtual 268, 3) := by decide +kernel
theorem dX13_on_95 : decode cX13_on 95 = .ok (.iconst 1, 1) := by decide +kernel
theorem dX13_on_96 : decode cX13_on 96 = .ok (.ireturn, 1) := by decide +kernel
theorem dX13_forgets_0 : decode cX13_forgets 0 = .ok (.aload_n 0, 1) := by decide +kernel
theorem dX13_forgets_1 : decode cX13_forgets 1 = .ok (.getfield 13, 3) := by decide +kernel
theorem dX13_forgets_4 : decode cX13_forgets 4 = .ok (.iload_n 1, 1) := by decide +kernel
theorem dX13_forgets_5 : decode cX13_forgets 5 = .ok (.iconst 0, 1) := by decide +kernel
theorem dX13_forgets_6 : decode cX13_forgets 6 = .ok (.bastore, 1) := by decide +kernel
theorem dX13_forgets_7 : decode cX13_forgets 7 = .ok (.aload_n 0, 1) := by decide +kernel
theorem dX13_forgets_8 : decode cX13_forgets 8 = .ok (.getfield 17, 3) := by decide +kernel
theorem dX13_forgets_11 : decode cX13_forgets 11 = .ok (.iload_n 1, 1) := by decide +kernel
theorem dX13_forgets_12 : decode cX13_forgets 12 = .ok (.iconst 0, 1) := by decide +kernel
theorem dX13_forgets_13 : decode cX13_forgets 13 = .ok (.iastore, 1) := by decide +kernel
theorem dX13_forgets_14 : decode cX13_forgets 14 = .ok (.aload_n 0, 1) := by decide +kernel
theorem dX13_forgets_15 : decode cX13_forgets 15 = .ok (.getfield 23, 3) := by decide +kernel
theorem dX13_forgets_18 : decode cX13_forgets 18 = .ok (.iload_n 1, 1) := by decide +kernel
theorem dX13_forgets_19 : decode cX13_forgets 19 = .ok (.iconst 0, 1) := by decide +kernel
theorem dX13_forgets_20 : decode cX13_forgets 20 = .ok (.iastore, 1) := by decide +kernel
theorem dX13_forgets_21 : decode cX13_forgets 21 = .ok (.aload_n 0, 1) := by decide +kernel
theorem dX13_forgets_22 : decode cX13_forgets 22 = .ok (.getfield 26, 3) := by decide +kernel
theorem dX13_forgets_25 : decode cX13_forgets 25 = .ok (.iload_n 1, 1) := by decide +kernel
theorem dX13_forgets_26 : decode cX13_forgets 26 = .ok (.iconst 0, 1) := by decide +kernel
theorem dX13_forgets_27 : decode cX13_forgets 27 = .ok (.iastore, 1) := by decide +kernel
theorem dX13_forgets_28 : decode cX13_forgets 28 = .ok (.aload_n 0, 1) := by decide +kernel
theorem dX13_forgets_29 : decode cX13_forgets 29 = .ok (.getfield 29, 3) := by decide +kernel
theorem dX13_forgets_32 : decode cX13_forgets 32 = .ok (.iload_n 1, 1) := by decide +kernel
theorem dX13_forgets_33 : decode cX13_forgets 33 = .ok (.iconst 0, 1) := by decide +kernel
theorem dX13_forgets_34 : decode cX13_forgets 34 = .ok (.iastore, 1) := by decide +kernel
theorem dX13_forgets_35 : decode cX13_forgets 35 = .ok (.aload_n 0, 1) := by decide +kernel
theorem dX13_forgets_36 : decode cX13_forgets 36 = .ok (.getfield 32, 3) := by decide +kernel
theorem dX13_forgets_39 : decode cX13_forgets 39 = .ok (.iload_n 1, 1) := by decide +kernel
theorem dX13_forgets_40 : decode cX13_forgets 40 = .ok (.iconst 0, 1) := by decide +kernel
theorem dX13_forgets_41 : decode cX13_forgets 41 = .ok (.iastore, 1) := by decide +kernel
theorem dX13_forgets_42 : decode cX13_forgets 42 = .ok (.aload_n 0, 1) := by decide +kernel
theorem dX13_forgets_43 : decode cX13_forgets 43 = .ok (.getfield 35, 3) := by decide +kernel
theorem dX13_forgets_46 : decode cX13_forgets 46 = .ok (.iload_n 1, 1) := by decide +kernel
theorem dX13_forgets_47 : decode cX13_forgets 47 = .ok (.iconst 0, 1) := by decide +kernel
theorem dX13_forgets_48 : decode cX13_forgets 48 = .ok (.iastore, 1) := by decide +kernel
theorem dX13_forgets_49 : decode cX13_forgets 49 = .ok (.aload_n 0, 1) := by decide +kernel
theorem dX13_forgets_50 : decode cX13_forgets 50 = .ok (.getfield 41, 3) := by decide +kernel
theorem dX13_forgets_53 : decode cX13_forgets 53 = .ok (.iload_n 1, 1) := by decide +kernel
theorem dX13_forgets_54 : decode cX13_forgets 54 = .ok (.iconst 0, 1) := by decide +kernel
theorem dX13_forgets_55 : decode cX13_forgets 55 = .ok (.bastore, 1) := by decide +kernel
theorem dX13_forgets_56 : decode cX13_forgets 56 = .ok (.aload_n 0, 1) := by decide +kernel
theorem dX13_forgets_57 : decode cX13_forgets 57 = .ok (.getfield 44, 3) := by decide +kernel
theorem dX13_forgets_60 : decode cX13_forgets 60 = .ok (.iload_n 1, 1) := by decide +kernel
theorem dX13_forgets_61 : decode cX13_forgets 61 = .ok (.ldc2_w 271, 3) := by decide +kernel
theorem dX13_forgets_64 : decode cX13_forgets 64 = .ok (.lastore, 1) := by decide +kernel
theorem dX13_forgets_65 : decode cX13_forgets 65 = .ok (.aload_n 0, 1) := by decide +kernel
theorem dX13_forgets_66 : decode cX13_forgets 66 = .ok (.getfield 48, 3) := by decide +kernel
theorem dX13_forgets_69 : decode cX13_forgets 69 = .ok (.iload_n 1, 1) := by decide +kernel
theorem dX13_forgets_70 : decode cX13_forgets 70 = .ok (.ldc2_w 271, 3) := by decide +kernel
theorem dX13_forgets_73 : decode cX13_forgets 73 = .ok (.lastore, 1) := by decide +kernel
theorem dX13_forgets_74 : decode cX13_forgets 74 = .ok (.aload_n 0, 1) := by decide +kernel
theorem dX13_forgets_75 : decode cX13_forgets 75 = .ok (.getfield 51, 3) := by decide +kernel
theorem dX13_forgets_78 : decode cX13_forgets 78 = .ok (.iload_n 1, 1) := by decide +kernel
theorem dX13_forgets_79 : decode cX13_forgets 79 = .ok (.iconst 0, 1) := by decide +kernel
theorem dX13_forgets_80 : decode cX13_forgets 80 = .ok (.iastore, 1) := by decide +kernel
theorem dX13_forgets_81 : decode cX13_forgets 81 = .ok (.aload_n 0, 1) := by decide +kernel
theorem dX13_forgets_82 : decode cX13_forgets 82 = .ok (.getfield 57, 3) := by decide +kernel
theorem dX13_forgets_85 : decode cX13_forgets 85 = .ok (.iload_n 1, 1) := by decide +kernel
theorem dX13_forgets_86 : decode cX13_forgets 86 = .ok (.ldc2_w 271, 3) := by decide +kernel
theorem dX13_forgets_89 : decode cX13_forgets 89 = .ok (.lastore, 1) := by decide +kernel
theorem dX13_forgets_90 : decode cX13_forgets 90 = .ok (.aload_n 0, 1) := by decide +kernel
theorem dX13_forgets_91 : decode cX13_forgets 91 = .ok (.getfield 60, 3) := by decide +kernel
theorem dX13_forgets_94 : decode cX13_forgets 94 = .ok (.iload_n 1, 1) := by decide +kernel
theorem dX13_forgets_95 : decode cX13_forgets 95 = .ok (.iconst 1, 1) := by decide +kernel
theorem dX13_forgets_96 : decode cX13_forgets 96 = .ok (.iastore, 1) := by decide +kernel
theorem dX13_forgets_97 : decode cX13_forgets 97 = .ok (.aload_n 0, 1) := by decide +kernel
theorem dX13_forgets_98 : decode cX13_forgets 98 = .ok (.getfield 75, 3) := by decide +kernel
theorem dX13_forgets_101 : decode cX13_forgets 101 = .ok (.iload_n 1, 1) := by decide +kernel
theorem dX13_forgets_102 : decode cX13_forgets 102 = .ok (.iconst 0, 1) := by decide +kernel
theorem dX13_forgets_103 : decode cX13_forgets 103 = .ok (.iastore, 1) := by decide +kernel
theorem dX13_forgets_104 : decode cX13_forgets 104 = .ok (.aload_n 0, 1) := by decide +kernel
theorem dX13_forgets_105 : decode cX13_forgets 105 = .ok (.getfield 96, 3) := by decide +kernel
theorem dX13_forgets_108 : decode cX13_forgets 108 = .ok (.iload_n 1, 1) := by decide +kernel
theorem dX13_forgets_109 : decode cX13_forgets 109 = .ok (.iconst 0, 1) := by decide +kernel
theorem dX13_forgets_110 : decode cX13_forgets 110 = .ok (.iastore, 1) := by decide +kernel
theorem dX13_forgets_111 : decode cX13_forgets 111 = .ok (.aload_n 0, 1) := by decide +kernel
theorem dX13_forgets_112 : decode cX13_forgets 112 = .ok (.getfield 99, 3) := by decide +kernel
theorem dX13_forgets_115 : decode cX13_forgets 115 = .ok (.iload_n 1, 1) := by decide +kernel
theorem dX13_forgets_116 : decode cX13_forgets 116 = .ok (.iconst 0, 1) := by decide +kernel
theorem dX13_forgets_117 : decode cX13_forgets 117 = .ok (.iastore, 1) := by decide +kernel
theorem dX13_forgets_118 : decode cX13_forgets 118 = .ok (.iconst 4, 1) := by decide +kernel
theorem dX13_forgets_119 : decode cX13_forgets 119 = .ok (.iload_n 1, 1) := by decide +kernel
theorem dX13_forgets_120 : decode cX13_forgets 120 = .ok (.imul, 1) := by decide +kernel
theorem dX13_forgets_121 : decode cX13_forgets 121 = .ok (.istore_n 2, 1) := by decide +kernel
theorem dX13_forgets_122 : decode cX13_forgets 122 = .ok (.iload_n 2, 1) := by decide +kernel
theorem dX13_forgets_123 : decode cX13_forgets 123 = .ok (.iconst 4, 1) := by decide +kernel
theorem dX13_forgets_124 : decode cX13_forgets 124 = .ok (.iload_n 1, 1) := by decide +kernel
theorem dX13_forgets_125 : decode cX13_forgets 125 = .ok (.imul, 1) := by decide +kernel
theorem dX13_forgets_126 : decode cX13_forgets 126 = .ok (.iconst 4, 1) := by decide +kernel
theorem dX13_forgets_127 : decode cX13_forgets 127 = .ok (.iadd, 1) := by decide +kernel
theorem dX13_forgets_128 : decode cX13_forgets 128 = .ok (.if_icmp .ge 16, 3) := by decide +kernel
theorem dX13_forgets_131 : decode cX13_forgets 131 = .ok (.aload_n 0, 1) := by decide +kernel
theorem dX13_forgets_132 : decode cX13_forgets 132 = .ok (.getfield 81, 3) := by decide +kernel
theorem dX13_forgets_135 : decode cX13_forgets 135 = .ok (.iload_n 2, 1) := by decide +kernel
theorem dX13_forgets_136 : decode cX13_forgets 136 = .ok (.iconst 0, 1) := by decide +kernel
theorem dX13_forgets_137 : decode cX13_forgets 137 = .ok (.iastore, 1) := by decide +kernel
theorem dX13_forgets_138 : decode cX13_forgets 138 = .ok (.iinc 2 1, 3) := by decide +kernel
theorem dX13_forgets_141 : decode cX13_forgets 141 = .ok (.goto (-19), 3) := by decide +kernel
theorem dX13_forgets_144 : decode cX13_forgets 144 = .ok (.return_, 1) := by decide +kernel
theorem dX13_probes_0 : decode cX13_probes 0 = .ok (.aload_n 0, 1) := by decide +kernel
theorem dX13_probes_1 : decode cX13_probes 1 = .ok (.getfield 41, 3) := by decide +kernel
theorem dX13_probes_4 : decode cX13_probes 4 = .ok (.iload_n 1, 1) := by decide +kernel
theorem dX13_probes_5 : decode cX13_probes 5 = .ok (.iconst 0, 1) := by decide +kernel
theorem dX13_probes_6 : decode cX13_probes 6 = .ok (.bastore, 1) := by decide +kernel
theorem dX13_probes_7 : decode cX13_probes 7 = .ok (.aload_n 0, 1) := by decide +kernel
theorem dX13_probes_8 : decode cX13_probes 8 = .ok (.getfield 38, 3) := by decide +kernel
theorem dX13_probes_11 : decode cX13_probes 11 = .ok (.iload_n 1, 1) := by decide +kernel
theorem dX13_probes_12 : decode cX13_probes 12 = .ok (.iconst 0, 1) := by decide +kernel
theorem dX13_probes_13 : decode cX13_probes 13 = .ok (.iastore, 1) := by decide +kernel
theorem dX13_probes_14 : decode cX13_probes 14 = .ok (.aload_n 0, 1) := by decide +kernel
theorem dX13_probes_15 : decode cX13_probes 15 = .ok (.getfield 44, 3) := by decide +kernel
theorem dX13_probes_18 : decode cX13_probes 18 = .ok (.iload_n 1, 1) := by decide +kernel
theorem dX13_probes_19 : decode cX13_probes 19 = .ok (.aload_n 0, 1) := by decide +kernel
theorem dX13_probes_20 : decode cX13_probes 20 = .ok (.getfield 226, 3) := by decide +kernel
theorem dX13_probes_23 : decode cX13_probes 23 = .ok (.ldc2_w 262, 3) := by decide +kernel
theorem dX13_probes_26 : decode cX13_probes 26 = .ok (.aload_n 0, 1) := by decide +kernel
theorem dX13_probes_27 : decode cX13_probes 27 = .ok (.getfield 17, 3) := by decide +kernel
theorem dX13_probes_30 : decode cX13_probes 30 = .ok (.iload_n 1, 1) := by decide +kernel
theorem dX13_probes_31 : decode cX13_probes 31 = .ok (.iaload, 1) := by decide +kernel
theorem dX13_probes_32 : decode cX13_probes 32 = .ok (.i2l, 1) := by decide +kernel
theorem dX13_probes_33 : decode cX13_probes 33 = .ok (.lmul, 1) := by decide +kernel
theorem dX13_probes_34 : decode cX13_probes 34 = .ok (.ldc2_w 264, 3) := by decide +kernel
theorem dX13_probes_37 : decode cX13_probes 37 = .ok (.aload_n 0, 1) := by decide +kernel
theorem dX13_probes_38 : decode cX13_probes 38 = .ok (.getfield 23, 3) := by decide +kernel
theorem dX13_probes_41 : decode cX13_probes 41 = .ok (.iload_n 1, 1) := by decide +kernel
theorem dX13_probes_42 : decode cX13_probes 42 = .ok (.iaload, 1) := by decide +kernel
theorem dX13_probes_43 : decode cX13_probes 43 = .ok (.i2l, 1) := by decide +kernel
theorem dX13_probes_44 : decode cX13_probes 44 = .ok (.lmul, 1) := by decide +kernel
theorem dX13_probes_45 : decode cX13_probes 45 = .ok (.ladd, 1) := by decide +kernel
theorem dX13_probes_46 : decode cX13_probes 46 = .ok (.ldc2_w 266, 3) := by decide +kernel
theorem dX13_probes_49 : decode cX13_probes 49 = .ok (.lrem, 1) := by decide +kernel
theorem dX13_probes_50 : decode cX13_probes 50 = .ok (.ladd, 1) := by decide +kernel
theorem dX13_probes_51 : decode cX13_probes 51 = .ok (.lastore, 1) := by decide +kernel
theorem dX13_probes_52 : decode cX13_probes 52 = .ok (.return_, 1) := by decide +kernel
theorem dX13_isHost_0 : decode cX13_isHost 0 = .ok (.iload_n 1, 1) := by decide +kernel
theorem dX13_isHost_1 : decode cX13_isHost 1 = .ok (.ifCond .lt 13, 3) := by decide +kernel
theorem dX13_isHost_4 : decode cX13_isHost 4 = .ok (.iload_n 1, 1) := by decide +kernel
theorem dX13_isHost_5 : decode cX13_isHost 5 = .ok (.bipush 8, 2) := by decide +kernel
theorem dX13_isHost_7 : decode cX13_isHost 7 = .ok (.if_icmp .ge 7, 3) := by decide +kernel
theorem dX13_isHost_10 : decode cX13_isHost 10 = .ok (.iconst 1, 1) := by decide +kernel
theorem dX13_isHost_11 : decode cX13_isHost 11 = .ok (.goto 4, 3) := by decide +kernel
theorem dX13_isHost_14 : decode cX13_isHost 14 = .ok (.iconst 0, 1) := by decide +kernel
theorem dX13_isHost_15 : decode cX13_isHost 15 = .ok (.ireturn, 1) := by decide +kernel
theorem dX13_off_0 : decode cX13_off 0 = .ok (.aload_n 0, 1) := by decide +kernel
theorem dX13_off_1 : decode cX13_off 1 = .ok (.iconst 0, 1) := by decide +kernel
theorem dX13_off_2 : decode cX13_off 2 = .ok (.putfield 184, 3) := by decide +kernel
theorem dX13_off_5 : decode cX13_off 5 = .ok (.aload_n 0, 1) := by decide +kernel
theorem dX13_off_6 : decode cX13_off 6 = .ok (.iload_n 1, 1) := by decide +kernel
theorem dX13_off_7 : decode cX13_off 7 = .ok (.invokevirtual 386, 3) := by decide +kernel
theorem dX13_off_10 : decode cX13_off 10 = .ok (.ifCond .eq 12, 3) := by decide +kernel
theorem dX13_off_13 : decode cX13_off 13 = .ok (.aload_n 0, 1) := by decide +kernel
theorem dX13_off_14 : decode cX13_off 14 = .ok (.getfield 13, 3) := by decide +kernel
theorem dX13_off_17 : decode cX13_off 17 = .ok (.iload_n 1, 1) := by decide +kernel
theorem dX13_off_18 : decode cX13_off 18 = .ok (.baload, 1) := by decide +kernel
theorem dX13_off_19 : decode cX13_off 19 = .ok (.ifCond .ne 5, 3) := by decide +kernel
theorem dX13_off_22 : decode cX13_off 22 = .ok (.iconst 0, 1) := by decide +kernel
theorem dX13_off_23 : decode cX13_off 23 = .ok (.ireturn, 1) := by decide +kernel
theorem dX13_off_24 : decode cX13_off 24 = .ok (.iload_n 2, 1) := by decide +kernel
theorem dX13_off_25 : decode cX13_off 25 = .ok (.ifCond .eq 20, 3) := by decide +kernel
theorem dX13_off_28 : decode cX13_off 28 = .ok (.aload_n 0, 1) := by decide +kernel
theorem dX13_off_29 : decode cX13_off 29 = .ok (.getfield 51, 3) := by decide +kernel
theorem dX13_off_32 : decode cX13_off 32 = .ok (.iload_n 1, 1) := by decide +kernel
theorem dX13_off_33 : decode cX13_off 33 = .ok (.iaload, 1) := by decide +kernel
theorem dX13_off_34 : decode cX13_off 34 = .ok (.iconst 3, 1) := by decide +kernel
theorem dX13_off_35 : decode cX13_off 35 = .ok (.if_icmp .ne 10, 3) := by decide +kernel
theorem dX13_off_38 : decode cX13_off 38 = .ok (.aload_n 0, 1) := by decide +kernel
theorem dX13_off_39 : decode cX13_off 39 = .ok (.iload_n 1, 1) := by decide +kernel
theorem dX13_off_40 : decode cX13_off 40 = .ok (.iconst 0, 1) := by decide +kernel
theorem dX13_off_41 : decode cX13_off 41 = .ok (.iconst 1, 1) := by decide +kernel
theorem dX13_off_42 : decode cX13_off 42 = .ok (.invokevirtual 288, 3) := by decide +kernel
theorem dX13_off_45 : decode cX13_off 45 = .ok (.aload_n 0, 1) := by decide +kernel
theorem dX13_off_46 : decode cX13_off 46 = .ok (.iload_n 1, 1) := by decide +kernel
theorem dX13_off_47 : decode cX13_off 47 = .ok (.invokevirtual 390, 3) := by decide +kernel
theorem dX13_off_50 : decode cX13_off 50 = .ok (.iconst 1, 1) := by decide +kernel
theorem dX13_off_51 : decode cX13_off 51 = .ok (.ireturn, 1) := by decide +kernel
theorem dX13_claim_0 : decode cX13_claim 0 = .ok (.aload_n 0, 1) := by decide +kernel
theorem dX13_claim_1 : decode cX13_claim 1 = .ok (.iconst 0, 1) := by decide +kernel
theorem dX13_claim_2 : decode cX13_claim 2 = .ok (.putfield 184, 3) := by decide +kernel
theorem dX13_claim_5 : decode cX13_claim 5 = .ok (.aload_n 0, 1) := by decide +kernel
theorem dX13_claim_6 : decode cX13_claim 6 = .ok (.invokevirtual 393, 3) := by decide +kernel
theorem dX13_claim_9 : decode cX13_claim 9 = .ok (.istore_n 2, 1) := by decide +kernel
theorem dX13_claim_10 : decode cX13_claim 10 = .ok (.aload_n 0, 1) := by decide +kernel
theorem dX13_claim_11 : decode cX13_claim 11 = .ok (.iload_n 1, 1) := by decide +kernel
theorem dX13_claim_12 : decode cX13_claim 12 = .ok (.invokevirtual 386, 3) := by decide +kernel
theorem dX13_claim_15 : decode cX13_claim 15 = .ok (.ifCond .eq 25, 3) := by decide +kernel
theorem dX13_claim_18 : decode cX13_claim 18 = .ok (.aload_n 0, 1) := by decide +kernel
theorem dX13_claim_19 : decode cX13_claim 19 = .ok (.getfield 13, 3) := by decide +kernel
theorem dX13_claim_22 : decode cX13_claim 22 = .ok (.iload_n 1, 1) := by decide +kernel
theorem dX13_claim_23 : decode cX13_claim 23 = .ok (.baload, 1) := by decide +kernel
theorem dX13_claim_24 : decode cX13_claim 24 = .ok (.ifCond .eq 16, 3) := by decide +kernel
theorem dX13_claim_27 : decode cX13_claim 27 = .ok (.aload_n 0, 1) := by decide +kernel
theorem dX13_claim_28 : decode cX13_claim 28 = .ok (.getfield 51, 3) := by decide +kernel
theorem dX13_claim_31 : decode cX13_claim 31 = .ok (.iload_n 1, 1) := by decide +kernel
theorem dX13_claim_32 : decode cX13_claim 32 = .ok (.iaload, 1) := by decide +kernel
theorem dX13_claim_33 : decode cX13_claim 33 = .ok (.ifCond .gt 7, 3) := by decide +kernel
theorem dX13_claim_36 : decode cX13_claim 36 = .ok (.iload_n 2, 1) := by decide +kernel
theorem dX13_claim_37 : decode cX13_claim 37 = .ok (.ifCond .ne 5, 3) := by decide +kernel
theorem dX13_claim_40 : decode cX13_claim 40 = .ok (.iconst 0, 1) := by decide +kernel
theorem dX13_claim_41 : decode cX13_claim 41 = .ok (.ireturn, 1) := by decide +kernel
theorem dX13_claim_42 : decode cX13_claim 42 = .ok (.aload_n 0, 1) := by decide +kernel
theorem dX13_claim_43 : decode cX13_claim 43 = .ok (.getfield 148, 3) := by decide +kernel
theorem dX13_claim_46 : decode cX13_claim 46 = .ok (.iconst 0, 1) := by decide +kernel
theorem dX13_claim_47 : decode cX13_claim 47 = .ok (.aload_n 0, 1) := by decide +kernel
theorem dX13_claim_48 : decode cX13_claim 48 = .ok (.getfield 63, 3) := by decide +kernel
theorem dX13_claim_51 : decode cX13_claim 51 = .ok (.bipush 16, 2) := by decide +kernel
theorem dX13_claim_53 : decode cX13_claim 53 = .ok (.iload_n 1, 1) := by decide +kernel
theorem dX13_claim_54 : decode cX13_claim 54 = .ok (.imul, 1) := by decide +kernel
theorem dX13_claim_55 : decode cX13_claim 55 = .ok (.invokestatic 213, 3) := by decide +kernel
theorem dX13_claim_58 : decode cX13_claim 58 = .ok (.aload_n 0, 1) := by decide +kernel
theorem dX13_claim_59 : decode cX13_claim 59 = .ok (.getfield 148, 3) := by decide +kernel
theorem dX13_claim_62 : decode cX13_claim 62 = .ok (.iconst 0, 1) := by decide +kernel
theorem dX13_claim_63 : decode cX13_claim 63 = .ok (.aload_n 0, 1) := by decide +kernel
theorem dX13_claim_64 : decode cX13_claim 64 = .ok (.getfield 66, 3) := by decide +kernel
theorem dX13_claim_67 : decode cX13_claim 67 = .ok (.bipush 16, 2) := by decide +kernel
theorem dX13_claim_69 : decode cX13_claim 69 = .ok (.iload_n 1, 1) := by decide +kernel
theorem dX13_claim_70 : decode cX13_claim 70 = .ok (.imul, 1) := by decide +kernel
theorem dX13_claim_71 : decode cX13_claim 71 = .ok (.invokestatic 213, 3) := by decide +kernel
theorem dX13_claim_74 : decode cX13_claim 74 = .ok (.aload_n 0, 1) := by decide +kernel
theorem dX13_claim_75 : decode cX13_claim 75 = .ok (.getfield 51, 3) := by decide +kernel
theorem dX13_claim_78 : decode cX13_claim 78 = .ok (.iload_n 1, 1) := by decide +kernel
theorem dX13_claim_79 : decode cX13_claim 79 = .ok (.iconst 1, 1) := by decide +kernel
theorem dX13_claim_80 : decode cX13_claim 80 = .ok (.iastore, 1) := by decide +kernel
theorem dX13_claim_81 : decode cX13_claim 81 = .ok (.aload_n 0, 1) := by decide +kernel
theorem dX13_claim_82 : decode cX13_claim 82 = .ok (.getfield 41, 3) := by decide +kernel
theorem dX13_claim_85 : decode cX13_claim 85 = .ok (.iload_n 1, 1) := by decide +kernel
theorem dX13_claim_86 : decode cX13_claim 86 = .ok (.baload, 1) := by decide +kernel
theorem dX13_claim_87 : decode cX13_claim 87 = .ok (.ifCond .eq 8, 3) := by decide +kernel
theorem dX13_claim_90 : decode cX13_claim 90 = .ok (.aload_n 0, 1) := by decide +kernel
theorem dX13_claim_91 : decode cX13_claim 91 = .ok (.iload_n 1, 1) := by decide +kernel
theorem dX13_claim_92 : decode cX13_claim 92 = .ok (.invokevirtual 277, 3) := by decide +kernel
theorem dX13_claim_95 : decode cX13_claim 95 = .ok (.iconst 1, 1) := by decide +kernel
theorem dX13_claim_96 : decode cX13_claim 96 = .ok (.ireturn, 1) := by decide +kernel
theorem dX13_service_0 : decode cX13_service 0 = .ok (.aload_n 0, 1) := by decide +kernel
theorem dX13_service_1 : decode cX13_service 1 = .ok (.iconst 0, 1) := by decide +kernel
theorem dX13_service_2 : decode cX13_service 2 = .ok (.putfield 184, 3) := by decide +kernel
theorem dX13_service_5 : decode cX13_service 5 = .ok (.aload_n 0, 1) := by decide +kernel
theorem dX13_service_6 : decode cX13_service 6 = .ok (.invokevirtual 393, 3) := by decide +kernel
theorem dX13_service_9 : decode cX13_service 9 = .ok (.istore_n 3, 1) := by decide +kernel
theorem dX13_service_10 : decode cX13_service 10 = .ok (.aload_n 0, 1) := by decide +kernel
theorem dX13_service_11 : decode cX13_service 11 = .ok (.iload_n 1, 1) := by decide +kernel
theorem dX13_service_12 : decode cX13_service 12 = .ok (.invokevirtual 386, 3) := by decide +kernel
theorem dX13_service_15 : decode cX13_service 15 = .ok (.ifCond .eq 37, 3) := by decide +kernel
theorem dX13_service_18 : decode cX13_service 18 = .ok (.aload_n 0, 1) := by decide +kernel
theorem dX13_service_19 : decode cX13_service 19 = .ok (.getfield 13, 3) := by decide +kernel
theorem dX13_service_22 : decode cX13_service 22 = .ok (.iload_n 1, 1) := by decide +kernel
theorem dX13_service_23 : decode cX13_service 23 = .ok (.baload, 1) := by decide +kernel
theorem dX13_service_24 : decode cX13_service 24 = .ok (.ifCond .eq 28, 3) := by decide +kernel
theorem dX13_service_27 : decode cX13_service 27 = .ok (.iload_n 2, 1) := by decide +kernel
theorem dX13_service_28 : decode cX13_service 28 = .ok (.ifCond .lt 24, 3) := by decide +kernel
theorem dX13_service_31 : decode cX13_service 31 = .ok (.iload_n 2, 1) := by decide +kernel
theorem dX13_service_32 : decode cX13_service 32 = .ok (.ldc_w 389, 3) := by decide +kernel
theorem dX13_service_35 : decode cX13_service 35 = .ok (.if_icmp .gt 17, 3) := by decide +kernel
theorem dX13_service_38 : decode cX13_service 38 = .ok (.iload_n 3, 1) := by decide +kernel
theorem dX13_service_39 : decode cX13_service 39 = .ok (.ifCond .eq 13, 3) := by decide +kernel
theorem dX13_service_42 : decode cX13_service 42 = .ok (.aload_n 0, 1) := by decide +kernel
theorem dX13_service_43 : decode cX13_service 43 = .ok (.getfield 75, 3) := by decide +kernel
theorem dX13_service_46 : decode cX13_service 46 = .ok (.iload_n 1, 1) := by decide +kernel
theorem dX13_service_47 : decode cX13_service 47 = .ok (.iaload, 1) := by decide +kernel
theorem dX13_service_48 : decode cX13_service 48 = .ok (.iconst 4, 1) := by decide +kernel
theorem dX13_service_49 : decode cX13_service 49 = .ok (.if_icmp .ne 5, 3) := by decide +kernel
theorem dX13_service_52 : decode cX13_service 52 = .ok (.iconst (-1), 1) := by decide +kernel
theorem dX13_service_53 : decode cX13_service 53 = .ok (.ireturn, 1) := by decide +kernel
theorem dX13_service_54 : decode cX13_service 54 = .ok (.aload_n 0, 1) := by decide +kernel
theorem dX13_service_55 : decode cX13_service 55 = .ok (.getfield 148, 3) := by decide +kernel
theorem dX13_service_58 : decode cX13_service 58 = .ok (.iconst 0, 1) := by decide +kernel
theorem dX13_service_59 : decode cX13_service 59 = .ok (.aload_n 0, 1) := by decide +kernel
theorem dX13_service_60 : decode cX13_service 60 = .ok (.getfield 69, 3) := by decide +kernel
theorem dX13_service_63 : decode cX13_service 63 = .ok (.bipush 64, 2) := by decide +kernel
theorem dX13_service_65 : decode cX13_service 65 = .ok (.iload_n 1, 1) := by decide +kernel
theorem dX13_service_66 : decode cX13_service 66 = .ok (.imul, 1) := by decide +kernel
theorem dX13_service_67 : decode cX13_service 67 = .ok (.bipush 16, 2) := by decide +kernel
theorem dX13_service_69 : decode cX13_service 69 = .ok (.aload_n 0, 1) := by decide +kernel
theorem dX13_service_70 : decode cX13_service 70 = .ok (.getfield 75, 3) := by decide +kernel
theorem dX13_service_73 : decode cX13_service 73 = .ok (.iload_n 1, 1) := by decide +kernel
theorem dX13_service_74 : decode cX13_service 74 = .ok (.iaload, 1) := by decide +kernel
theorem dX13_service_75 : decode cX13_service 75 = .ok (.imul, 1) := by decide +kernel
theorem dX13_service_76 : decode cX13_service 76 = .ok (.iadd, 1) := by decide +kernel
theorem dX13_service_77 : decode cX13_service 77 = .ok (.invokestatic 213, 3) := by decide +kernel
theorem dX13_service_80 : decode cX13_service 80 = .ok (.aload_n 0, 1) := by decide +kernel
theorem dX13_service_81 : decode cX13_service 81 = .ok (.getfield 72, 3) := by decide +kernel
theorem dX13_service_84 : decode cX13_service 84 = .ok (.iconst 4, 1) := by decide +kernel
theorem dX13_service_85 : decode cX13_service 85 = .ok (.iload_n 1, 1) := by decide +kernel
theorem dX13_service_86 : decode cX13_service 86 = .ok (.imul, 1) := by decide +kernel
theorem dX13_service_87 : decode cX13_service 87 = .ok (.aload_n 0, 1) := by decide +kernel
theorem dX13_service_88 : decode cX13_service 88 = .ok (.getfield 75, 3) := by decide +kernel
theorem dX13_service_91 : decode cX13_service 91 = .ok (.iload_n 1, 1) := by decide +kernel
theorem dX13_service_92 : decode cX13_service 92 = .ok (.iaload, 1) := by decide +kernel
theorem dX13_service_93 : decode cX13_service 93 = .ok (.iadd, 1) := by decide +kernel
theorem dX13_service_94 : decode cX13_service 94 = .ok (.iload_n 2, 1) := by decide +kernel
theorem dX13_service_95 : decode cX13_service 95 = .ok (.iastore, 1) := by decide +kernel
theorem dX13_service_96 : decode cX13_service 96 = .ok (.aload_n 0, 1) := by decide +kernel
theorem dX13_service_97 : decode cX13_service 97 = .ok (.getfield 75, 3) := by decide +kernel
theorem dX13_service_100 : decode cX13_service 100 = .ok (.iload_n 1, 1) := by decide +kernel
theorem dX13_service_101 : decode cX13_service 101 = .ok (.dup2, 1) := by decide +kernel
theorem dX13_service_102 : decode cX13_service 102 = .ok (.iaload, 1) := by decide +kernel
theorem dX13_service_103 : decode cX13_service 103 = .ok (.iconst 1, 1) := by decide +kernel
theorem dX13_service_104 : decode cX13_service 104 = .ok (.iadd, 1) := by decide +kernel
theorem dX13_service_105 : decode cX13_service 105 = .ok (.iastore, 1) := by decide +kernel
theorem dX13_service_106 : decode cX13_service 106 = .ok (.aload_n 0, 1) := by decide +kernel
theorem dX13_service_107 : decode cX13_service 107 = .ok (.getfield 75, 3) := by decide +kernel
theorem dX13_service_110 : decode cX13_service 110 = .ok (.iload_n 1, 1) := by decide +kernel
theorem dX13_service_111 : decode cX13_service 111 = .ok (.iaload, 1) := by decide +kernel
theorem dX13_service_112 : decode cX13_service 112 = .ok (.ireturn, 1) := by decide +kernel
theorem dX13_ask_0 : decode cX13_ask 0 = .ok (.aload_n 0, 1) := by decide +kernel
theorem dX13_ask_1 : decode cX13_ask 1 = .ok (.iconst 0, 1) := by decide +kernel
theorem dX13_ask_2 : decode cX13_ask 2 = .ok (.putfield 184, 3) := by decide +kernel
theorem dX13_ask_5 : decode cX13_ask 5 = .ok (.aload_n 0, 1) := by decide +kernel
theorem dX13_ask_6 : decode cX13_ask 6 = .ok (.invokevirtual 393, 3) := by decide +kernel
theorem dX13_ask_9 : decode cX13_ask 9 = .ok (.istore_n 3, 1) := by decide +kernel
theorem dX13_ask_10 : decode cX13_ask 10 = .ok (.aload_n 0, 1) := by decide +kernel
theorem dX13_ask_11 : decode cX13_ask 11 = .ok (.iload_n 1, 1) := by decide +kernel
theorem dX13_ask_12 : decode cX13_ask 12 = .ok (.invokevirtual 386, 3) := by decide +kernel
theorem dX13_ask_15 : decode cX13_ask 15 = .ok (.ifCond .eq 26, 3) := by decide +kernel
theorem dX13_ask_18 : decode cX13_ask 18 = .ok (.aload_n 0, 1) := by decide +kernel
theorem dX13_ask_19 : decode cX13_ask 19 = .ok (.getfield 13, 3) := by decide +kernel
theorem dX13_ask_22 : decode cX13_ask 22 = .ok (.iload_n 1, 1) := by decide +kernel
theorem dX13_ask_23 : decode cX13_ask 23 = .ok (.baload, 1) := by decide +kernel
theorem dX13_ask_24 : decode cX13_ask 24 = .ok (.ifCond .eq 17, 3) := by decide +kernel
theorem dX13_ask_27 : decode cX13_ask 27 = .ok (.iload_n 2, 1) := by decide +kernel
theorem dX13_ask_28 : decode cX13_ask 28 = .ok (.iconst 1, 1) := by decide +kernel
theorem dX13_ask_29 : decode cX13_ask 29 = .ok (.if_icmp .lt 12, 3) := by decide +kernel
theorem dX13_ask_32 : decode cX13_ask 32 = .ok (.iload_n 2, 1) := by decide +kernel
theorem dX13_ask_33 : decode cX13_ask 33 = .ok (.iconst 2, 1) := by decide +kernel
theorem dX13_ask_34 : decode cX13_ask 34 = .ok (.if_icmp .gt 7, 3) := by decide +kernel
theorem dX13_ask_37 : decode cX13_ask 37 = .ok (.iload_n 3, 1) := by decide +kernel
theorem dX13_ask_38 : decode cX13_ask 38 = .ok (.ifCond .ne 5, 3) := by decide +kernel
theorem dX13_ask_41 : decode cX13_ask 41 = .ok (.iconst (-1), 1) := by decide +kernel
theorem dX13_ask_42 : decode cX13_ask 42 = .ok (.ireturn, 1) := by decide +kernel
theorem dX13_ask_43 : decode cX13_ask 43 = .ok (.iconst 0, 1) := by decide +kernel
theorem dX13_ask_44 : decode cX13_ask 44 = .ok (.istore 4, 2) := by decide +kernel
theorem dX13_ask_46 : decode cX13_ask 46 = .ok (.iload 4, 2) := by decide +kernel
theorem dX13_ask_48 : decode cX13_ask 48 = .ok (.iconst 4, 1) := by decide +kernel
theorem dX13_ask_49 : decode cX13_ask 49 = .ok (.if_icmp .ge 23, 3) := by decide +kernel
theorem dX13_ask_52 : decode cX13_ask 52 = .ok (.aload_n 0, 1) := by decide +kernel
theorem dX13_ask_53 : decode cX13_ask 53 = .ok (.getfield 81, 3) := by decide +kernel
theorem dX13_ask_56 : decode cX13_ask 56 = .ok (.iconst 4, 1) := by decide +kernel
theorem dX13_ask_57 : decode cX13_ask 57 = .ok (.iload_n 1, 1) := by decide +kernel
theorem dX13_ask_58 : decode cX13_ask 58 = .ok (.imul, 1) := by decide +kernel
theorem dX13_ask_59 : decode cX13_ask 59 = .ok (.iload 4, 2) := by decide +kernel
theorem dX13_ask_61 : decode cX13_ask 61 = .ok (.iadd, 1) := by decide +kernel
theorem dX13_ask_62 : decode cX13_ask 62 = .ok (.iaload, 1) := by decide +kernel
theorem dX13_ask_63 : decode cX13_ask 63 = .ok (.ifCond .le 9, 3) := by decide +kernel
theorem dX13_ask_66 : decode cX13_ask 66 = .ok (.iinc 4 1, 3) := by decide +kernel
theorem dX13_ask_69 : decode cX13_ask 69 = .ok (.goto (-23), 3) := by decide +kernel
theorem dX13_ask_72 : decode cX13_ask 72 = .ok (.iload 4, 2) := by decide +kernel
theorem dX13_ask_74 : decode cX13_ask 74 = .ok (.iconst 4, 1) := by decide +kernel
theorem dX13_ask_75 : decode cX13_ask 75 = .ok (.if_icmp .ne 5, 3) := by decide +kernel
theorem dX13_ask_78 : decode cX13_ask 78 = .ok (.iconst (-1), 1) := by decide +kernel

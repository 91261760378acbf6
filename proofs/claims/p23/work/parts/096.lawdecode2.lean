theorem dL_faults_262 : decode cL_faults 262 = .ok (.istore_n 1, 1) := by decide +kernel
theorem dL_faults_263 : decode cL_faults 263 = .ok (.iload_n 1, 1) := by decide +kernel
theorem dL_faults_264 : decode cL_faults 264 = .ok (.bipush 6, 2) := by decide +kernel
theorem dL_faults_266 : decode cL_faults 266 = .ok (.if_icmp .ge 16, 3) := by decide +kernel
theorem dL_faults_269 : decode cL_faults 269 = .ok (.aload_n 0, 1) := by decide +kernel
theorem dL_faults_270 : decode cL_faults 270 = .ok (.iconst 4, 1) := by decide +kernel
theorem dL_faults_271 : decode cL_faults 271 = .ok (.iconst 2, 1) := by decide +kernel
theorem dL_faults_272 : decode cL_faults 272 = .ok (.iconst 1, 1) := by decide +kernel
theorem dL_faults_273 : decode cL_faults 273 = .ok (.invokestatic 94, 3) := by decide +kernel
theorem dL_faults_276 : decode cL_faults 276 = .ok (.iinc 1 1, 3) := by decide +kernel
theorem dL_faults_279 : decode cL_faults 279 = .ok (.goto (-16), 3) := by decide +kernel
theorem dL_faults_282 : decode cL_faults 282 = .ok (.aload_n 0, 1) := by decide +kernel
theorem dL_faults_283 : decode cL_faults 283 = .ok (.bipush 37, 2) := by decide +kernel
theorem dL_faults_285 : decode cL_faults 285 = .ok (.invokestatic 97, 3) := by decide +kernel
theorem dL_faults_288 : decode cL_faults 288 = .ok (.ifCond .ne 5, 3) := by decide +kernel
theorem dL_faults_291 : decode cL_faults 291 = .ok (.iconst 0, 1) := by decide +kernel
theorem dL_faults_292 : decode cL_faults 292 = .ok (.ireturn, 1) := by decide +kernel
theorem dL_faults_293 : decode cL_faults 293 = .ok (.iconst 0, 1) := by decide +kernel
theorem dL_faults_294 : decode cL_faults 294 = .ok (.istore_n 1, 1) := by decide +kernel
theorem dL_faults_295 : decode cL_faults 295 = .ok (.iload_n 1, 1) := by decide +kernel
theorem dL_faults_296 : decode cL_faults 296 = .ok (.iconst 4, 1) := by decide +kernel
theorem dL_faults_297 : decode cL_faults 297 = .ok (.if_icmp .ge 19, 3) := by decide +kernel
theorem dL_faults_300 : decode cL_faults 300 = .ok (.aload_n 0, 1) := by decide +kernel
theorem dL_faults_301 : decode cL_faults 301 = .ok (.bipush 115, 2) := by decide +kernel
theorem dL_faults_303 : decode cL_faults 303 = .ok (.bipush 59, 2) := by decide +kernel
theorem dL_faults_305 : decode cL_faults 305 = .ok (.iconst 0, 1) := by decide +kernel
theorem dL_faults_306 : decode cL_faults 306 = .ok (.iconst 0, 1) := by decide +kernel
theorem dL_faults_307 : decode cL_faults 307 = .ok (.invokestatic 101, 3) := by decide +kernel
theorem dL_faults_310 : decode cL_faults 310 = .ok (.iinc 1 1, 3) := by decide +kernel
theorem dL_faults_313 : decode cL_faults 313 = .ok (.goto (-18), 3) := by decide +kernel
theorem dL_faults_316 : decode cL_faults 316 = .ok (.aload_n 0, 1) := by decide +kernel
theorem dL_faults_317 : decode cL_faults 317 = .ok (.bipush 6, 2) := by decide +kernel
theorem dL_faults_319 : decode cL_faults 319 = .ok (.invokestatic 97, 3) := by decide +kernel
theorem dL_faults_322 : decode cL_faults 322 = .ok (.ifCond .ne 5, 3) := by decide +kernel
theorem dL_faults_325 : decode cL_faults 325 = .ok (.iconst 0, 1) := by decide +kernel
theorem dL_faults_326 : decode cL_faults 326 = .ok (.ireturn, 1) := by decide +kernel
theorem dL_faults_327 : decode cL_faults 327 = .ok (.aload_n 0, 1) := by decide +kernel
theorem dL_faults_328 : decode cL_faults 328 = .ok (.bipush 115, 2) := by decide +kernel
theorem dL_faults_330 : decode cL_faults 330 = .ok (.bipush 59, 2) := by decide +kernel
theorem dL_faults_332 : decode cL_faults 332 = .ok (.bipush 116, 2) := by decide +kernel
theorem dL_faults_334 : decode cL_faults 334 = .ok (.bipush 59, 2) := by decide +kernel
theorem dL_faults_336 : decode cL_faults 336 = .ok (.invokestatic 101, 3) := by decide +kernel
theorem dL_faults_339 : decode cL_faults 339 = .ok (.aload_n 0, 1) := by decide +kernel
theorem dL_faults_340 : decode cL_faults 340 = .ok (.iconst 2, 1) := by decide +kernel
theorem dL_faults_341 : decode cL_faults 341 = .ok (.invokestatic 97, 3) := by decide +kernel
theorem dL_faults_344 : decode cL_faults 344 = .ok (.ifCond .ne 5, 3) := by decide +kernel
theorem dL_faults_347 : decode cL_faults 347 = .ok (.iconst 0, 1) := by decide +kernel
theorem dL_faults_348 : decode cL_faults 348 = .ok (.ireturn, 1) := by decide +kernel
theorem dL_faults_349 : decode cL_faults 349 = .ok (.aload_n 0, 1) := by decide +kernel
theorem dL_faults_350 : decode cL_faults 350 = .ok (.bipush 115, 2) := by decide +kernel
theorem dL_faults_352 : decode cL_faults 352 = .ok (.bipush 59, 2) := by decide +kernel
theorem dL_faults_354 : decode cL_faults 354 = .ok (.bipush 99, 2) := by decide +kernel
theorem dL_faults_356 : decode cL_faults 356 = .ok (.bipush 52, 2) := by decide +kernel
theorem dL_faults_358 : decode cL_faults 358 = .ok (.invokestatic 101, 3) := by decide +kernel
theorem dL_faults_361 : decode cL_faults 361 = .ok (.aload_n 0, 1) := by decide +kernel
theorem dL_faults_362 : decode cL_faults 362 = .ok (.bipush 44, 2) := by decide +kernel
theorem dL_faults_364 : decode cL_faults 364 = .ok (.bipush 50, 2) := by decide +kernel
theorem dL_faults_366 : decode cL_faults 366 = .ok (.bipush 44, 2) := by decide +kernel
theorem dL_faults_368 : decode cL_faults 368 = .ok (.bipush 49, 2) := by decide +kernel
theorem dL_faults_370 : decode cL_faults 370 = .ok (.invokestatic 101, 3) := by decide +kernel
theorem dL_faults_373 : decode cL_faults 373 = .ok (.aload_n 0, 1) := by decide +kernel
theorem dL_faults_374 : decode cL_faults 374 = .ok (.iconst 2, 1) := by decide +kernel
theorem dL_faults_375 : decode cL_faults 375 = .ok (.invokestatic 97, 3) := by decide +kernel
theorem dL_faults_378 : decode cL_faults 378 = .ok (.ifCond .ne 5, 3) := by decide +kernel
theorem dL_faults_381 : decode cL_faults 381 = .ok (.iconst 0, 1) := by decide +kernel
theorem dL_faults_382 : decode cL_faults 382 = .ok (.ireturn, 1) := by decide +kernel
theorem dL_faults_383 : decode cL_faults 383 = .ok (.aload_n 0, 1) := by decide +kernel
theorem dL_faults_384 : decode cL_faults 384 = .ok (.bipush 115, 2) := by decide +kernel
theorem dL_faults_386 : decode cL_faults 386 = .ok (.bipush 59, 2) := by decide +kernel
theorem dL_faults_388 : decode cL_faults 388 = .ok (.iconst 0, 1) := by decide +kernel
theorem dL_faults_389 : decode cL_faults 389 = .ok (.iconst 0, 1) := by decide +kernel
theorem dL_faults_390 : decode cL_faults 390 = .ok (.invokestatic 101, 3) := by decide +kernel
theorem dL_faults_393 : decode cL_faults 393 = .ok (.aload_n 0, 1) := by decide +kernel
theorem dL_faults_394 : decode cL_faults 394 = .ok (.iconst 4, 1) := by decide +kernel
theorem dL_faults_395 : decode cL_faults 395 = .ok (.iconst 2, 1) := by decide +kernel
theorem dL_faults_396 : decode cL_faults 396 = .ok (.iconst 1, 1) := by decide +kernel
theorem dL_faults_397 : decode cL_faults 397 = .ok (.invokestatic 94, 3) := by decide +kernel
theorem dL_faults_400 : decode cL_faults 400 = .ok (.aload_n 0, 1) := by decide +kernel
theorem dL_faults_401 : decode cL_faults 401 = .ok (.bipush (-4), 2) := by decide +kernel
theorem dL_faults_403 : decode cL_faults 403 = .ok (.invokestatic 97, 3) := by decide +kernel
theorem dL_faults_406 : decode cL_faults 406 = .ok (.ifCond .ne 5, 3) := by decide +kernel
theorem dL_faults_409 : decode cL_faults 409 = .ok (.iconst 0, 1) := by decide +kernel
theorem dL_faults_410 : decode cL_faults 410 = .ok (.ireturn, 1) := by decide +kernel
theorem dL_faults_411 : decode cL_faults 411 = .ok (.aload_n 0, 1) := by decide +kernel
theorem dL_faults_412 : decode cL_faults 412 = .ok (.bipush 115, 2) := by decide +kernel
theorem dL_faults_414 : decode cL_faults 414 = .ok (.bipush 59, 2) := by decide +kernel
theorem dL_faults_416 : decode cL_faults 416 = .ok (.iconst 0, 1) := by decide +kernel
theorem dL_faults_417 : decode cL_faults 417 = .ok (.iconst 0, 1) := by decide +kernel
theorem dL_faults_418 : decode cL_faults 418 = .ok (.invokestatic 101, 3) := by decide +kernel
theorem dL_faults_421 : decode cL_faults 421 = .ok (.aload_n 0, 1) := by decide +kernel
theorem dL_faults_422 : decode cL_faults 422 = .ok (.iconst 4, 1) := by decide +kernel
theorem dL_faults_423 : decode cL_faults 423 = .ok (.iconst 2, 1) := by decide +kernel
theorem dL_faults_424 : decode cL_faults 424 = .ok (.iconst 1, 1) := by decide +kernel
theorem dL_faults_425 : decode cL_faults 425 = .ok (.invokestatic 94, 3) := by decide +kernel
theorem dL_faults_428 : decode cL_faults 428 = .ok (.aload_n 0, 1) := by decide +kernel
theorem dL_faults_429 : decode cL_faults 429 = .ok (.iconst 4, 1) := by decide +kernel
theorem dL_faults_430 : decode cL_faults 430 = .ok (.iconst 2, 1) := by decide +kernel
theorem dL_faults_431 : decode cL_faults 431 = .ok (.iconst 1, 1) := by decide +kernel
theorem dL_faults_432 : decode cL_faults 432 = .ok (.invokestatic 94, 3) := by decide +kernel
theorem dL_faults_435 : decode cL_faults 435 = .ok (.aload_n 0, 1) := by decide +kernel
theorem dL_faults_436 : decode cL_faults 436 = .ok (.bipush 115, 2) := by decide +kernel
theorem dL_faults_438 : decode cL_faults 438 = .ok (.bipush 59, 2) := by decide +kernel
theorem dL_faults_440 : decode cL_faults 440 = .ok (.iconst 0, 1) := by decide +kernel
theorem dL_faults_441 : decode cL_faults 441 = .ok (.iconst 0, 1) := by decide +kernel
theorem dL_faults_442 : decode cL_faults 442 = .ok (.invokestatic 101, 3) := by decide +kernel
theorem dL_faults_445 : decode cL_faults 445 = .ok (.aload_n 0, 1) := by decide +kernel
theorem dL_faults_446 : decode cL_faults 446 = .ok (.bipush (-4), 2) := by decide +kernel
theorem dL_faults_448 : decode cL_faults 448 = .ok (.invokestatic 97, 3) := by decide +kernel
theorem dL_faults_451 : decode cL_faults 451 = .ok (.ifCond .eq 16, 3) := by decide +kernel
theorem dL_faults_454 : decode cL_faults 454 = .ok (.aload_n 0, 1) := by decide +kernel
theorem dL_faults_455 : decode cL_faults 455 = .ok (.bipush (-4), 2) := by decide +kernel
theorem dL_faults_457 : decode cL_faults 457 = .ok (.invokestatic 97, 3) := by decide +kernel
theorem dL_faults_460 : decode cL_faults 460 = .ok (.ifCond .eq 7, 3) := by decide +kernel
theorem dL_faults_463 : decode cL_faults 463 = .ok (.iconst 1, 1) := by decide +kernel
theorem dL_faults_464 : decode cL_faults 464 = .ok (.goto 4, 3) := by decide +kernel
theorem dL_faults_467 : decode cL_faults 467 = .ok (.iconst 0, 1) := by decide +kernel
theorem dL_faults_468 : decode cL_faults 468 = .ok (.ireturn, 1) := by decide +kernel
theorem dL_refused_0 : decode cL_refused 0 = .ok (.aload_n 0, 1) := by decide +kernel
theorem dL_refused_1 : decode cL_refused 1 = .ok (.invokestatic 77, 3) := by decide +kernel
theorem dL_refused_4 : decode cL_refused 4 = .ok (.lstore_n 1, 1) := by decide +kernel
theorem dL_refused_5 : decode cL_refused 5 = .ok (.aload_n 0, 1) := by decide +kernel
theorem dL_refused_6 : decode cL_refused 6 = .ok (.iconst 5, 1) := by decide +kernel
theorem dL_refused_7 : decode cL_refused 7 = .ok (.invokevirtual 39, 3) := by decide +kernel
theorem dL_refused_10 : decode cL_refused 10 = .ok (.istore_n 3, 1) := by decide +kernel
theorem dL_refused_11 : decode cL_refused 11 = .ok (.aload_n 0, 1) := by decide +kernel
theorem dL_refused_12 : decode cL_refused 12 = .ok (.iconst 0, 1) := by decide +kernel
theorem dL_refused_13 : decode cL_refused 13 = .ok (.invokevirtual 39, 3) := by decide +kernel
theorem dL_refused_16 : decode cL_refused 16 = .ok (.istore 4, 2) := by decide +kernel
theorem dL_refused_18 : decode cL_refused 18 = .ok (.aload_n 0, 1) := by decide +kernel
theorem dL_refused_19 : decode cL_refused 19 = .ok (.iconst 0, 1) := by decide +kernel
theorem dL_refused_20 : decode cL_refused 20 = .ok (.iconst 0, 1) := by decide +kernel
theorem dL_refused_21 : decode cL_refused 21 = .ok (.invokevirtual 46, 3) := by decide +kernel
theorem dL_refused_24 : decode cL_refused 24 = .ok (.istore 5, 2) := by decide +kernel
theorem dL_refused_26 : decode cL_refused 26 = .ok (.aload_n 0, 1) := by decide +kernel
theorem dL_refused_27 : decode cL_refused 27 = .ok (.bipush 31, 2) := by decide +kernel
theorem dL_refused_29 : decode cL_refused 29 = .ok (.invokevirtual 9, 3) := by decide +kernel
theorem dL_refused_32 : decode cL_refused 32 = .ok (.iconst (-1), 1) := by decide +kernel
theorem dL_refused_33 : decode cL_refused 33 = .ok (.if_icmp .ne 208, 3) := by decide +kernel
theorem dL_refused_36 : decode cL_refused 36 = .ok (.aload_n 0, 1) := by decide +kernel
theorem dL_refused_37 : decode cL_refused 37 = .ok (.bipush 127, 2) := by decide +kernel
theorem dL_refused_39 : decode cL_refused 39 = .ok (.invokevirtual 9, 3) := by decide +kernel
theorem dL_refused_42 : decode cL_refused 42 = .ok (.iconst (-1), 1) := by decide +kernel
theorem dL_refused_43 : decode cL_refused 43 = .ok (.if_icmp .ne 198, 3) := by decide +kernel
theorem dL_refused_46 : decode cL_refused 46 = .ok (.aload_n 0, 1) := by decide +kernel
theorem dL_refused_47 : decode cL_refused 47 = .ok (.iload 4, 2) := by decide +kernel
theorem dL_refused_49 : decode cL_refused 49 = .ok (.iconst 0, 1) := by decide +kernel
theorem dL_refused_50 : decode cL_refused 50 = .ok (.iconst 0, 1) := by decide +kernel
theorem dL_refused_51 : decode cL_refused 51 = .ok (.iconst 1, 1) := by decide +kernel
theorem dL_refused_52 : decode cL_refused 52 = .ok (.invokevirtual 87, 3) := by decide +kernel
theorem dL_refused_55 : decode cL_refused 55 = .ok (.iconst (-1), 1) := by decide +kernel
theorem dL_refused_56 : decode cL_refused 56 = .ok (.if_icmp .ne 185, 3) := by decide +kernel
theorem dL_refused_59 : decode cL_refused 59 = .ok (.aload_n 0, 1) := by decide +kernel
theorem dL_refused_60 : decode cL_refused 60 = .ok (.iconst 0, 1) := by decide +kernel
theorem dL_refused_61 : decode cL_refused 61 = .ok (.iload 5, 2) := by decide +kernel
theorem dL_refused_63 : decode cL_refused 63 = .ok (.iconst 0, 1) := by decide +kernel
theorem dL_refused_64 : decode cL_refused 64 = .ok (.iconst 1, 1) := by decide +kernel
theorem dL_refused_65 : decode cL_refused 65 = .ok (.invokevirtual 87, 3) := by decide +kernel
theorem dL_refused_68 : decode cL_refused 68 = .ok (.iconst (-1), 1) := by decide +kernel
theorem dL_refused_69 : decode cL_refused 69 = .ok (.if_icmp .ne 172, 3) := by decide +kernel
theorem dL_refused_72 : decode cL_refused 72 = .ok (.aload_n 0, 1) := by decide +kernel
theorem dL_refused_73 : decode cL_refused 73 = .ok (.iconst 0, 1) := by decide +kernel
theorem dL_refused_74 : decode cL_refused 74 = .ok (.iconst 0, 1) := by decide +kernel
theorem dL_refused_75 : decode cL_refused 75 = .ok (.iconst 2, 1) := by decide +kernel
theorem dL_refused_76 : decode cL_refused 76 = .ok (.iconst 1, 1) := by decide +kernel
theorem dL_refused_77 : decode cL_refused 77 = .ok (.invokevirtual 87, 3) := by decide +kernel
theorem dL_refused_80 : decode cL_refused 80 = .ok (.iconst (-1), 1) := by decide +kernel
theorem dL_refused_81 : decode cL_refused 81 = .ok (.if_icmp .ne 160, 3) := by decide +kernel
theorem dL_refused_84 : decode cL_refused 84 = .ok (.aload_n 0, 1) := by decide +kernel
theorem dL_refused_85 : decode cL_refused 85 = .ok (.iconst 0, 1) := by decide +kernel
theorem dL_refused_86 : decode cL_refused 86 = .ok (.iconst 0, 1) := by decide +kernel
theorem dL_refused_87 : decode cL_refused 87 = .ok (.iconst 0, 1) := by decide +kernel
theorem dL_refused_88 : decode cL_refused 88 = .ok (.aload_n 0, 1) := by decide +kernel
theorem dL_refused_89 : decode cL_refused 89 = .ok (.iconst 0, 1) := by decide +kernel
theorem dL_refused_90 : decode cL_refused 90 = .ok (.iconst 0, 1) := by decide +kernel
theorem dL_refused_91 : decode cL_refused 91 = .ok (.iconst 0, 1) := by decide +kernel
theorem dL_refused_92 : decode cL_refused 92 = .ok (.invokevirtual 49, 3) := by decide +kernel
theorem dL_refused_95 : decode cL_refused 95 = .ok (.iconst 1, 1) := by decide +kernel
theorem dL_refused_96 : decode cL_refused 96 = .ok (.iadd, 1) := by decide +kernel
theorem dL_refused_97 : decode cL_refused 97 = .ok (.invokevirtual 87, 3) := by decide +kernel
theorem dL_refused_100 : decode cL_refused 100 = .ok (.iconst (-1), 1) := by decide +kernel
theorem dL_refused_101 : decode cL_refused 101 = .ok (.if_icmp .ne 140, 3) := by decide +kernel
theorem dL_refused_104 : decode cL_refused 104 = .ok (.aload_n 0, 1) := by decide +kernel
theorem dL_refused_105 : decode cL_refused 105 = .ok (.iconst 0, 1) := by decide +kernel
theorem dL_refused_106 : decode cL_refused 106 = .ok (.iconst 0, 1) := by decide +kernel
theorem dL_refused_107 : decode cL_refused 107 = .ok (.iconst 1, 1) := by decide +kernel
theorem dL_refused_108 : decode cL_refused 108 = .ok (.bipush 10, 2) := by decide +kernel
theorem dL_refused_110 : decode cL_refused 110 = .ok (.invokevirtual 87, 3) := by decide +kernel
theorem dL_refused_113 : decode cL_refused 113 = .ok (.iconst (-1), 1) := by decide +kernel
theorem dL_refused_114 : decode cL_refused 114 = .ok (.if_icmp .ne 127, 3) := by decide +kernel
theorem dL_refused_117 : decode cL_refused 117 = .ok (.aload_n 0, 1) := by decide +kernel
theorem dL_refused_118 : decode cL_refused 118 = .ok (.iconst 0, 1) := by decide +kernel
theorem dL_refused_119 : decode cL_refused 119 = .ok (.iconst 0, 1) := by decide +kernel
theorem dL_refused_120 : decode cL_refused 120 = .ok (.iconst 0, 1) := by decide +kernel
theorem dL_refused_121 : decode cL_refused 121 = .ok (.iconst (-1), 1) := by decide +kernel
theorem dL_refused_122 : decode cL_refused 122 = .ok (.invokevirtual 87, 3) := by decide +kernel
theorem dL_refused_125 : decode cL_refused 125 = .ok (.iconst (-1), 1) := by decide +kernel
theorem dL_refused_126 : decode cL_refused 126 = .ok (.if_icmp .ne 115, 3) := by decide +kernel
theorem dL_refused_129 : decode cL_refused 129 = .ok (.aload_n 0, 1) := by decide +kernel
theorem dL_refused_130 : decode cL_refused 130 = .ok (.iconst 0, 1) := by decide +kernel
theorem dL_refused_131 : decode cL_refused 131 = .ok (.iconst 0, 1) := by decide +kernel
theorem dL_refused_132 : decode cL_refused 132 = .ok (.iconst 0, 1) := by decide +kernel
theorem dL_refused_133 : decode cL_refused 133 = .ok (.aload_n 0, 1) := by decide +kernel
theorem dL_refused_134 : decode cL_refused 134 = .ok (.iconst 0, 1) := by decide +kernel
theorem dL_refused_135 : decode cL_refused 135 = .ok (.iconst 0, 1) := by decide +kernel
theorem dL_refused_136 : decode cL_refused 136 = .ok (.iconst 1, 1) := by decide +kernel
theorem dL_refused_137 : decode cL_refused 137 = .ok (.invokevirtual 49, 3) := by decide +kernel
theorem dL_refused_140 : decode cL_refused 140 = .ok (.invokevirtual 87, 3) := by decide +kernel
theorem dL_refused_143 : decode cL_refused 143 = .ok (.bipush (-2), 2) := by decide +kernel
theorem dL_refused_145 : decode cL_refused 145 = .ok (.if_icmp .ne 96, 3) := by decide +kernel
theorem dL_refused_148 : decode cL_refused 148 = .ok (.aload_n 0, 1) := by decide +kernel
theorem dL_refused_149 : decode cL_refused 149 = .ok (.iconst 0, 1) := by decide +kernel
theorem dL_refused_150 : decode cL_refused 150 = .ok (.iconst 0, 1) := by decide +kernel
theorem dL_refused_151 : decode cL_refused 151 = .ok (.iconst 0, 1) := by decide +kernel
theorem dL_refused_152 : decode cL_refused 152 = .ok (.invokevirtual 91, 3) := by decide +kernel
theorem dL_refused_155 : decode cL_refused 155 = .ok (.iconst (-1), 1) := by decide +kernel
theorem dL_refused_156 : decode cL_refused 156 = .ok (.if_icmp .ne 85, 3) := by decide +kernel
theorem dL_refused_159 : decode cL_refused 159 = .ok (.aload_n 0, 1) := by decide +kernel
theorem dL_refused_160 : decode cL_refused 160 = .ok (.iconst 0, 1) := by decide +kernel
theorem dL_refused_161 : decode cL_refused 161 = .ok (.iload 5, 2) := by decide +kernel
theorem dL_refused_163 : decode cL_refused 163 = .ok (.iconst 0, 1) := by decide +kernel
theorem dL_refused_164 : decode cL_refused 164 = .ok (.invokevirtual 91, 3) := by decide +kernel
theorem dL_refused_167 : decode cL_refused 167 = .ok (.iconst (-1), 1) := by decide +kernel
theorem dL_refused_168 : decode cL_refused 168 = .ok (.if_icmp .ne 73, 3) := by decide +kernel
theorem dL_refused_171 : decode cL_refused 171 = .ok (.aload_n 0, 1) := by decide +kernel
theorem dL_refused_172 : decode cL_refused 172 = .ok (.iload 4, 2) := by decide +kernel
theorem dL_refused_174 : decode cL_refused 174 = .ok (.iconst 0, 1) := by decide +kernel
theorem dL_refused_175 : decode cL_refused 175 = .ok (.iconst 1, 1) := by decide +kernel
theorem dL_refused_176 : decode cL_refused 176 = .ok (.invokevirtual 91, 3) := by decide +kernel
theorem dL_refused_179 : decode cL_refused 179 = .ok (.iconst (-1), 1) := by decide +kernel
theorem dL_refused_180 : decode cL_refused 180 = .ok (.if_icmp .ne 61, 3) := by decide +kernel
theorem dL_refused_183 : decode cL_refused 183 = .ok (.aload_n 0, 1) := by decide +kernel
theorem dL_refused_184 : decode cL_refused 184 = .ok (.iconst (-1), 1) := by decide +kernel
theorem dL_refused_185 : decode cL_refused 185 = .ok (.invokevirtual 81, 3) := by decide +kernel
theorem dL_refused_188 : decode cL_refused 188 = .ok (.iconst (-1), 1) := by decide +kernel
theorem dL_refused_189 : decode cL_refused 189 = .ok (.if_icmp .ne 52, 3) := by decide +kernel
theorem dL_refused_192 : decode cL_refused 192 = .ok (.aload_n 0, 1) := by decide +kernel
theorem dL_refused_193 : decode cL_refused 193 = .ok (.iconst 0, 1) := by decide +kernel
theorem dL_refused_194 : decode cL_refused 194 = .ok (.iload 5, 2) := by decide +kernel
theorem dL_refused_196 : decode cL_refused 196 = .ok (.iconst 0, 1) := by decide +kernel
theorem dL_refused_197 : decode cL_refused 197 = .ok (.invokevirtual 49, 3) := by decide +kernel
theorem dL_refused_200 : decode cL_refused 200 = .ok (.iconst (-1), 1) := by decide +kernel
theorem dL_refused_201 : decode cL_refused 201 = .ok (.if_icmp .ne 40, 3) := by decide +kernel
theorem dL_refused_204 : decode cL_refused 204 = .ok (.aload_n 0, 1) := by decide +kernel
theorem dL_refused_205 : decode cL_refused 205 = .ok (.iconst 0, 1) := by decide +kernel
theorem dL_refused_206 : decode cL_refused 206 = .ok (.iconst 0, 1) := by decide +kernel
theorem dL_refused_207 : decode cL_refused 207 = .ok (.iconst 3, 1) := by decide +kernel
theorem dL_refused_208 : decode cL_refused 208 = .ok (.invokevirtual 49, 3) := by decide +kernel
theorem dL_refused_211 : decode cL_refused 211 = .ok (.iconst (-1), 1) := by decide +kernel
theorem dL_refused_212 : decode cL_refused 212 = .ok (.if_icmp .ne 29, 3) := by decide +kernel
theorem dL_refused_215 : decode cL_refused 215 = .ok (.aload_n 0, 1) := by decide +kernel
theorem dL_refused_216 : decode cL_refused 216 = .ok (.iload 4, 2) := by decide +kernel
theorem dL_refused_218 : decode cL_refused 218 = .ok (.iconst 0, 1) := by decide +kernel
theorem dL_refused_219 : decode cL_refused 219 = .ok (.invokevirtual 46, 3) := by decide +kernel
theorem dL_refused_222 : decode cL_refused 222 = .ok (.iconst (-1), 1) := by decide +kernel
theorem dL_refused_223 : decode cL_refused 223 = .ok (.if_icmp .ne 18, 3) := by decide +kernel
theorem dL_refused_226 : decode cL_refused 226 = .ok (.aload_n 0, 1) := by decide +kernel
theorem dL_refused_227 : decode cL_refused 227 = .ok (.iconst 0, 1) := by decide +kernel
theorem dL_refused_228 : decode cL_refused 228 = .ok (.bipush 7, 2) := by decide +kernel
theorem dL_refused_230 : decode cL_refused 230 = .ok (.invokevirtual 46, 3) := by decide +kernel
theorem dL_refused_233 : decode cL_refused 233 = .ok (.iconst (-1), 1) := by decide +kernel
theorem dL_refused_234 : decode cL_refused 234 = .ok (.if_icmp .ne 7, 3) := by decide +kernel
theorem dL_refused_237 : decode cL_refused 237 = .ok (.iconst 1, 1) := by decide +kernel
theorem dL_refused_238 : decode cL_refused 238 = .ok (.goto 4, 3) := by decide +kernel
theorem dL_refused_241 : decode cL_refused 241 = .ok (.iconst 0, 1) := by decide +kernel
theorem dL_refused_242 : decode cL_refused 242 = .ok (.istore 6, 2) := by decide +kernel
theorem dL_refused_244 : decode cL_refused 244 = .ok (.iload 6, 2) := by decide +kernel
theorem dL_refused_246 : decode cL_refused 246 = .ok (.ifCond .eq 225, 3) := by decide +kernel
theorem dL_refused_249 : decode cL_refused 249 = .ok (.aload_n 0, 1) := by decide +kernel
theorem dL_refused_250 : decode cL_refused 250 = .ok (.iconst 0, 1) := by decide +kernel
theorem dL_refused_251 : decode cL_refused 251 = .ok (.iconst 4, 1) := by decide +kernel
theorem dL_refused_252 : decode cL_refused 252 = .ok (.invokevirtual 53, 3) := by decide +kernel
theorem dL_refused_255 : decode cL_refused 255 = .ok (.ldc2_w 105, 3) := by decide +kernel
theorem dL_refused_258 : decode cL_refused 258 = .ok (.lcmp, 1) := by decide +kernel
theorem dL_refused_259 : decode cL_refused 259 = .ok (.ifCond .ne 212, 3) := by decide +kernel
theorem dL_refused_262 : decode cL_refused 262 = .ok (.aload_n 0, 1) := by decide +kernel
theorem dL_refused_263 : decode cL_refused 263 = .ok (.iload 4, 2) := by decide +kernel
theorem dL_refused_265 : decode cL_refused 265 = .ok (.iconst 0, 1) := by decide +kernel
theorem dL_refused_266 : decode cL_refused 266 = .ok (.invokevirtual 53, 3) := by decide +kernel
theorem dL_refused_269 : decode cL_refused 269 = .ok (.ldc2_w 105, 3) := by decide +kernel
theorem dL_refused_272 : decode cL_refused 272 = .ok (.lcmp, 1) := by decide +kernel
theorem dL_refused_273 : decode cL_refused 273 = .ok (.ifCond .ne 198, 3) := by decide +kernel
theorem dL_refused_276 : decode cL_refused 276 = .ok (.aload_n 0, 1) := by decide +kernel
theorem dL_refused_277 : decode cL_refused 277 = .ok (.iconst 0, 1) := by decide +kernel
theorem dL_refused_278 : decode cL_refused 278 = .ok (.iconst 3, 1) := by decide +kernel
theorem dL_refused_279 : decode cL_refused 279 = .ok (.iconst 0, 1) := by decide +kernel
theorem dL_refused_280 : decode cL_refused 280 = .ok (.invokevirtual 67, 3) := by decide +kernel
theorem dL_refused_283 : decode cL_refused 283 = .ok (.ldc2_w 105, 3) := by decide +kernel
theorem dL_refused_286 : decode cL_refused 286 = .ok (.lcmp, 1) := by decide +kernel
theorem dL_refused_287 : decode cL_refused 287 = .ok (.ifCond .ne 184, 3) := by decide +kernel
theorem dL_refused_290 : decode cL_refused 290 = .ok (.aload_n 0, 1) := by decide +kernel
theorem dL_refused_291 : decode cL_refused 291 = .ok (.iconst 0, 1) := by decide +kernel
theorem dL_refused_292 : decode cL_refused 292 = .ok (.iconst 0, 1) := by decide +kernel
theorem dL_refused_293 : decode cL_refused 293 = .ok (.iconst 2, 1) := by decide +kernel
theorem dL_refused_294 : decode cL_refused 294 = .ok (.invokevirtual 67, 3) := by decide +kernel
theorem dL_refused_297 : decode cL_refused 297 = .ok (.ldc2_w 105, 3) := by decide +kernel
theorem dL_refused_300 : decode cL_refused 300 = .ok (.lcmp, 1) := by decide +kernel
theorem dL_refused_301 : decode cL_refused 301 = .ok (.ifCond .ne 170, 3) := by decide +kernel
theorem dL_refused_304 : decode cL_refused 304 = .ok (.aload_n 0, 1) := by decide +kernel
theorem dL_refused_305 : decode cL_refused 305 = .ok (.iconst 0, 1) := by decide +kernel
theorem dL_refused_306 : decode cL_refused 306 = .ok (.iconst 0, 1) := by decide +kernel
theorem dL_refused_307 : decode cL_refused 307 = .ok (.invokevirtual 107, 3) := by decide +kernel
theorem dL_refused_310 : decode cL_refused 310 = .ok (.ldc2_w 105, 3) := by decide +kernel
theorem dL_refused_313 : decode cL_refused 313 = .ok (.lcmp, 1) := by decide +kernel
theorem dL_refused_314 : decode cL_refused 314 = .ok (.ifCond .ne 157, 3) := by decide +kernel
theorem dL_refused_317 : decode cL_refused 317 = .ok (.aload_n 0, 1) := by decide +kernel
theorem dL_refused_318 : decode cL_refused 318 = .ok (.iconst 3, 1) := by decide +kernel
theorem dL_refused_319 : decode cL_refused 319 = .ok (.iconst 0, 1) := by decide +kernel
theorem dL_refused_320 : decode cL_refused 320 = .ok (.invokevirtual 107, 3) := by decide +kernel
theorem dL_refused_323 : decode cL_refused 323 = .ok (.ldc2_w 105, 3) := by decide +kernel
theorem dL_refused_326 : decode cL_refused 326 = .ok (.lcmp, 1) := by decide +kernel
theorem dL_refused_327 : decode cL_refused 327 = .ok (.ifCond .ne 144, 3) := by decide +kernel
theorem dL_refused_330 : decode cL_refused 330 = .ok (.aload_n 0, 1) := by decide +kernel
theorem dL_refused_331 : decode cL_refused 331 = .ok (.iconst 0, 1) := by decide +kernel
theorem dL_refused_332 : decode cL_refused 332 = .ok (.iconst (-1), 1) := by decide +kernel
theorem dL_refused_333 : decode cL_refused 333 = .ok (.invokevirtual 71, 3) := by decide +kernel
theorem dL_refused_336 : decode cL_refused 336 = .ok (.iconst (-1), 1) := by decide +kernel
theorem dL_refused_337 : decode cL_refused 337 = .ok (.if_icmp .ne 134, 3) := by decide +kernel
theorem dL_refused_340 : decode cL_refused 340 = .ok (.aload_n 0, 1) := by decide +kernel
theorem dL_refused_341 : decode cL_refused 341 = .ok (.iconst 0, 1) := by decide +kernel
theorem dL_refused_342 : decode cL_refused 342 = .ok (.iload 5, 2) := by decide +kernel
theorem dL_refused_344 : decode cL_refused 344 = .ok (.iconst 1, 1) := by decide +kernel
theorem dL_refused_345 : decode cL_refused 345 = .ok (.iadd, 1) := by decide +kernel
theorem dL_refused_346 : decode cL_refused 346 = .ok (.iconst 0, 1) := by decide +kernel
theorem dL_refused_347 : decode cL_refused 347 = .ok (.iconst 0, 1) := by decide +kernel
theorem dL_refused_348 : decode cL_refused 348 = .ok (.invokevirtual 63, 3) := by decide +kernel
theorem dL_refused_351 : decode cL_refused 351 = .ok (.ldc2_w 105, 3) := by decide +kernel
theorem dL_refused_354 : decode cL_refused 354 = .ok (.lcmp, 1) := by decide +kernel
theorem dL_refused_355 : decode cL_refused 355 = .ok (.ifCond .ne 116, 3) := by decide +kernel
theorem dL_refused_358 : decode cL_refused 358 = .ok (.aload_n 0, 1) := by decide +kernel
theorem dL_refused_359 : decode cL_refused 359 = .ok (.iconst 0, 1) := by decide +kernel
theorem dL_refused_360 : decode cL_refused 360 = .ok (.iconst 0, 1) := by decide +kernel
theorem dL_refused_361 : decode cL_refused 361 = .ok (.iconst (-1), 1) := by decide +kernel
theorem dL_refused_362 : decode cL_refused 362 = .ok (.iconst 0, 1) := by decide +kernel
theorem dL_refused_363 : decode cL_refused 363 = .ok (.invokevirtual 63, 3) := by decide +kernel
theorem dL_refused_366 : decode cL_refused 366 = .ok (.ldc2_w 105, 3) := by decide +kernel
theorem dL_refused_369 : decode cL_refused 369 = .ok (.lcmp, 1) := by decide +kernel
theorem dL_refused_370 : decode cL_refused 370 = .ok (.ifCond .ne 101, 3) := by decide +kernel
theorem dL_refused_373 : decode cL_refused 373 = .ok (.aload_n 0, 1) := by decide +kernel
theorem dL_refused_374 : decode cL_refused 374 = .ok (.iconst 0, 1) := by decide +kernel
theorem dL_refused_375 : decode cL_refused 375 = .ok (.iconst 0, 1) := by decide +kernel
theorem dL_refused_376 : decode cL_refused 376 = .ok (.iconst 0, 1) := by decide +kernel
theorem dL_refused_377 : decode cL_refused 377 = .ok (.iconst 4, 1) := by decide +kernel
theorem dL_refused_378 : decode cL_refused 378 = .ok (.invokevirtual 63, 3) := by decide +kernel
theorem dL_refused_381 : decode cL_refused 381 = .ok (.ldc2_w 105, 3) := by decide +kernel
theorem dL_refused_384 : decode cL_refused 384 = .ok (.lcmp, 1) := by decide +kernel
theorem dL_refused_385 : decode cL_refused 385 = .ok (.ifCond .ne 86, 3) := by decide +kernel
theorem dL_refused_388 : decode cL_refused 388 = .ok (.aload_n 0, 1) := by decide +kernel
theorem dL_refused_389 : decode cL_refused 389 = .ok (.iconst 0, 1) := by decide +kernel
theorem dL_refused_390 : decode cL_refused 390 = .ok (.iconst (-1), 1) := by decide +kernel
theorem dL_refused_391 : decode cL_refused 391 = .ok (.invokevirtual 74, 3) := by decide +kernel
theorem dL_refused_394 : decode cL_refused 394 = .ok (.iconst (-1), 1) := by decide +kernel
theorem dL_refused_395 : decode cL_refused 395 = .ok (.if_icmp .ne 76, 3) := by decide +kernel
theorem dL_refused_398 : decode cL_refused 398 = .ok (.aload_n 0, 1) := by decide +kernel
theorem dL_refused_399 : decode cL_refused 399 = .ok (.iconst 0, 1) := by decide +kernel
theorem dL_refused_400 : decode cL_refused 400 = .ok (.iconst (-1), 1) := by decide +kernel
theorem dL_refused_401 : decode cL_refused 401 = .ok (.iconst 0, 1) := by decide +kernel
theorem dL_refused_402 : decode cL_refused 402 = .ok (.invokevirtual 60, 3) := by decide +kernel
theorem dL_refused_405 : decode cL_refused 405 = .ok (.iconst (-1), 1) := by decide +kernel
theorem dL_refused_406 : decode cL_refused 406 = .ok (.if_icmp .ne 65, 3) := by decide +kernel
theorem dL_refused_409 : decode cL_refused 409 = .ok (.aload_n 0, 1) := by decide +kernel
theorem dL_refused_410 : decode cL_refused 410 = .ok (.iconst 0, 1) := by decide +kernel
theorem dL_refused_411 : decode cL_refused 411 = .ok (.aload_n 0, 1) := by decide +kernel
theorem dL_refused_412 : decode cL_refused 412 = .ok (.iconst 0, 1) := by decide +kernel
theorem dL_refused_413 : decode cL_refused 413 = .ok (.iconst 4, 1) := by decide +kernel
theorem dL_refused_414 : decode cL_refused 414 = .ok (.invokevirtual 46, 3) := by decide +kernel
theorem dL_refused_417 : decode cL_refused 417 = .ok (.iconst 0, 1) := by decide +kernel
theorem dL_refused_418 : decode cL_refused 418 = .ok (.invokevirtual 60, 3) := by decide +kernel
theorem dL_refused_421 : decode cL_refused 421 = .ok (.iconst (-1), 1) := by decide +kernel
theorem dL_refused_422 : decode cL_refused 422 = .ok (.if_icmp .ne 49, 3) := by decide +kernel
theorem dL_refused_425 : decode cL_refused 425 = .ok (.aload_n 0, 1) := by decide +kernel
theorem dL_refused_426 : decode cL_refused 426 = .ok (.iconst 0, 1) := by decide +kernel
theorem dL_refused_427 : decode cL_refused 427 = .ok (.iconst 0, 1) := by decide +kernel
theorem dL_refused_428 : decode cL_refused 428 = .ok (.iload 5, 2) := by decide +kernel
theorem dL_refused_430 : decode cL_refused 430 = .ok (.invokevirtual 60, 3) := by decide +kernel
theorem dL_refused_433 : decode cL_refused 433 = .ok (.iconst (-1), 1) := by decide +kernel
theorem dL_refused_434 : decode cL_refused 434 = .ok (.if_icmp .ne 37, 3) := by decide +kernel
theorem dL_refused_437 : decode cL_refused 437 = .ok (.aload_n 0, 1) := by decide +kernel
theorem dL_refused_438 : decode cL_refused 438 = .ok (.iload 4, 2) := by decide +kernel
theorem dL_refused_440 : decode cL_refused 440 = .ok (.invokevirtual 57, 3) := by decide +kernel
theorem dL_refused_443 : decode cL_refused 443 = .ok (.iconst (-1), 1) := by decide +kernel
theorem dL_refused_444 : decode cL_refused 444 = .ok (.if_icmp .ne 27, 3) := by decide +kernel
theorem dL_refused_447 : decode cL_refused 447 = .ok (.aload_n 0, 1) := by decide +kernel
theorem dL_refused_448 : decode cL_refused 448 = .ok (.iconst 0, 1) := by decide +kernel
theorem dL_refused_449 : decode cL_refused 449 = .ok (.iconst (-1), 1) := by decide +kernel
theorem dL_refused_450 : decode cL_refused 450 = .ok (.invokevirtual 110, 3) := by decide +kernel
theorem dL_refused_453 : decode cL_refused 453 = .ok (.iconst (-1), 1) := by decide +kernel
theorem dL_refused_454 : decode cL_refused 454 = .ok (.if_icmp .ne 17, 3) := by decide +kernel
theorem dL_refused_457 : decode cL_refused 457 = .ok (.aload_n 0, 1) := by decide +kernel
theorem dL_refused_458 : decode cL_refused 458 = .ok (.bipush 7, 2) := by decide +kernel
theorem dL_refused_460 : decode cL_refused 460 = .ok (.invokevirtual 39, 3) := by decide +kernel
theorem dL_refused_463 : decode cL_refused 463 = .ok (.iconst (-1), 1) := by decide +kernel
theorem dL_refused_464 : decode cL_refused 464 = .ok (.if_icmp .ne 7, 3) := by decide +kernel
theorem dL_refused_467 : decode cL_refused 467 = .ok (.iconst 1, 1) := by decide +kernel
theorem dL_refused_468 : decode cL_refused 468 = .ok (.goto 4, 3) := by decide +kernel
theorem dL_refused_471 : decode cL_refused 471 = .ok (.iconst 0, 1) := by decide +kernel
theorem dL_refused_472 : decode cL_refused 472 = .ok (.istore 6, 2) := by decide +kernel
theorem dL_refused_474 : decode cL_refused 474 = .ok (.iload 6, 2) := by decide +kernel
theorem dL_refused_476 : decode cL_refused 476 = .ok (.ifCond .eq 25, 3) := by decide +kernel
theorem dL_refused_479 : decode cL_refused 479 = .ok (.aload_n 0, 1) := by decide +kernel
theorem dL_refused_480 : decode cL_refused 480 = .ok (.invokestatic 77, 3) := by decide +kernel
theorem dL_refused_483 : decode cL_refused 483 = .ok (.lload_n 1, 1) := by decide +kernel
theorem dL_refused_484 : decode cL_refused 484 = .ok (.lcmp, 1) := by decide +kernel
theorem dL_refused_485 : decode cL_refused 485 = .ok (.ifCond .ne 16, 3) := by decide +kernel
theorem dL_refused_488 : decode cL_refused 488 = .ok (.aload_n 0, 1) := by decide +kernel
theorem dL_refused_489 : decode cL_refused 489 = .ok (.iconst 5, 1) := by decide +kernel
theorem dL_refused_490 : decode cL_refused 490 = .ok (.invokevirtual 39, 3) := by decide +kernel
theorem dL_refused_493 : decode cL_refused 493 = .ok (.iload_n 3, 1) := by decide +kernel
theorem dL_refused_494 : decode cL_refused 494 = .ok (.if_icmp .ne 7, 3) := by decide +kernel
theorem dL_refused_497 : decode cL_refused 497 = .ok (.iconst 1, 1) := by decide +kernel
theorem dL_refused_498 : decode cL_refused 498 = .ok (.goto 4, 3) := by decide +kernel
theorem dL_refused_501 : decode cL_refused 501 = .ok (.iconst 0, 1) := by decide +kernel
theorem dL_refused_502 : decode cL_refused 502 = .ok (.ireturn, 1) := by decide +kernel
theorem dL_law_0 : decode cL_law 0 = .ok (.new 10, 3) := by decide +kernel
theorem dL_law_3 : decode cL_law 3 = .ok (.dup, 1) := by decide +kernel
theorem dL_law_4 : decode cL_law 4 = .ok (.invokespecial 113, 3) := by decide +kernel
theorem dL_law_7 : decode cL_law 7 = .ok (.astore_n 1, 1) := by decide +kernel
theorem dL_law_8 : decode cL_law 8 = .ok (.bipush 64, 2) := by decide +kernel
theorem dL_law_10 : decode cL_law 10 = .ok (.newarray .int, 2) := by decide +kernel
theorem dL_law_12 : decode cL_law 12 = .ok (.astore_n 2, 1) := by decide +kernel
theorem dL_law_13 : decode cL_law 13 = .ok (.aload_n 1, 1) := by decide +kernel
theorem dL_law_14 : decode cL_law 14 = .ok (.invokevirtual 84, 3) := by decide +kernel
theorem dL_law_17 : decode cL_law 17 = .ok (.bipush (-2), 2) := by decide +kernel
theorem dL_law_19 : decode cL_law 19 = .ok (.if_icmp .ne 46, 3) := by decide +kernel
theorem dL_law_22 : decode cL_law 22 = .ok (.aload_n 1, 1) := by decide +kernel
theorem dL_law_23 : decode cL_law 23 = .ok (.invokevirtual 33, 3) := by decide +kernel
theorem dL_law_26 : decode cL_law 26 = .ok (.bipush (-4), 2) := by decide +kernel
theorem dL_law_28 : decode cL_law 28 = .ok (.if_icmp .ne 37, 3) := by decide +kernel
theorem dL_law_31 : decode cL_law 31 = .ok (.aload_n 1, 1) := by decide +kernel
theorem dL_law_32 : decode cL_law 32 = .ok (.invokevirtual 36, 3) := by decide +kernel
theorem dL_law_35 : decode cL_law 35 = .ok (.bipush (-2), 2) := by decide +kernel
theorem dL_law_37 : decode cL_law 37 = .ok (.if_icmp .ne 28, 3) := by decide +kernel
theorem dL_law_40 : decode cL_law 40 = .ok (.aload_n 1, 1) := by decide +kernel
theorem dL_law_41 : decode cL_law 41 = .ok (.iconst 0, 1) := by decide +kernel
theorem dL_law_42 : decode cL_law 42 = .ok (.invokevirtual 39, 3) := by decide +kernel
theorem dL_law_45 : decode cL_law 45 = .ok (.iconst 2, 1) := by decide +kernel
theorem dL_law_46 : decode cL_law 46 = .ok (.if_icmp .ne 19, 3) := by decide +kernel
theorem dL_law_49 : decode cL_law 49 = .ok (.aload_n 1, 1) := by decide +kernel
theorem dL_law_50 : decode cL_law 50 = .ok (.bipush 6, 2) := by decide +kernel
theorem dL_law_52 : decode cL_law 52 = .ok (.invokevirtual 39, 3) := by decide +kernel
theorem dL_law_55 : decode cL_law 55 = .ok (.ifCond .ne 10, 3) := by decide +kernel
theorem dL_law_58 : decode cL_law 58 = .ok (.aload_n 1, 1) := by decide +kernel
theorem dL_law_59 : decode cL_law 59 = .ok (.invokestatic 114, 3) := by decide +kernel
theorem dL_law_62 : decode cL_law 62 = .ok (.ifCond .ne 5, 3) := by decide +kernel
theorem dL_law_65 : decode cL_law 65 = .ok (.iconst 0, 1) := by decide +kernel
theorem dL_law_66 : decode cL_law 66 = .ok (.ireturn, 1) := by decide +kernel
theorem dL_law_67 : decode cL_law 67 = .ok (.iconst 0, 1) := by decide +kernel
theorem dL_law_68 : decode cL_law 68 = .ok (.istore_n 3, 1) := by decide +kernel
theorem dL_law_69 : decode cL_law 69 = .ok (.iload_n 3, 1) := by decide +kernel
theorem dL_law_70 : decode cL_law 70 = .ok (.iconst 4, 1) := by decide +kernel
theorem dL_law_71 : decode cL_law 71 = .ok (.if_icmp .ge 131, 3) := by decide +kernel
theorem dL_law_74 : decode cL_law 74 = .ok (.aload_n 1, 1) := by decide +kernel
theorem dL_law_75 : decode cL_law 75 = .ok (.aload_n 0, 1) := by decide +kernel
theorem dL_law_76 : decode cL_law 76 = .ok (.bipush 40, 2) := by decide +kernel
theorem dL_law_78 : decode cL_law 78 = .ok (.iload_n 3, 1) := by decide +kernel
theorem dL_law_79 : decode cL_law 79 = .ok (.imul, 1) := by decide +kernel
theorem dL_law_80 : decode cL_law 80 = .ok (.iconst 3, 1) := by decide +kernel
theorem dL_law_81 : decode cL_law 81 = .ok (.iconst 4, 1) := by decide +kernel
theorem dL_law_82 : decode cL_law 82 = .ok (.iload_n 3, 1) := by decide +kernel
theorem dL_law_83 : decode cL_law 83 = .ok (.iconst 2, 1) := by decide +kernel
theorem dL_law_84 : decode cL_law 84 = .ok (.if_icmp .ge 8, 3) := by decide +kernel
theorem dL_law_87 : decode cL_law 87 = .ok (.bipush 12, 2) := by decide +kernel
theorem dL_law_89 : decode cL_law 89 = .ok (.goto 4, 3) := by decide +kernel
theorem dL_law_92 : decode cL_law 92 = .ok (.iconst 5, 1) := by decide +kernel
theorem dL_law_93 : decode cL_law 93 = .ok (.bipush 9, 2) := by decide +kernel
theorem dL_law_95 : decode cL_law 95 = .ok (.aload_n 2, 1) := by decide +kernel
theorem dL_law_96 : decode cL_law 96 = .ok (.invokestatic 118, 3) := by decide +kernel
theorem dL_law_99 : decode cL_law 99 = .ok (.ifCond .ne 5, 3) := by decide +kernel
theorem dL_law_102 : decode cL_law 102 = .ok (.iconst 0, 1) := by decide +kernel
theorem dL_law_103 : decode cL_law 103 = .ok (.ireturn, 1) := by decide +kernel
theorem dL_law_104 : decode cL_law 104 = .ok (.iconst 0, 1) := by decide +kernel
theorem dL_law_105 : decode cL_law 105 = .ok (.istore 4, 2) := by decide +kernel
theorem dL_law_107 : decode cL_law 107 = .ok (.iload 4, 2) := by decide +kernel
theorem dL_law_109 : decode cL_law 109 = .ok (.aload_n 2, 1) := by decide +kernel
theorem dL_law_110 : decode cL_law 110 = .ok (.iconst 0, 1) := by decide +kernel
theorem dL_law_111 : decode cL_law 111 = .ok (.iaload, 1) := by decide +kernel
theorem dL_law_112 : decode cL_law 112 = .ok (.if_icmp .ge 43, 3) := by decide +kernel
theorem dL_law_115 : decode cL_law 115 = .ok (.aload_n 1, 1) := by decide +kernel
theorem dL_law_116 : decode cL_law 116 = .ok (.iload 4, 2) := by decide +kernel
theorem dL_law_118 : decode cL_law 118 = .ok (.aload_n 0, 1) := by decide +kernel
theorem dL_law_119 : decode cL_law 119 = .ok (.bipush 40, 2) := by decide +kernel
theorem dL_law_121 : decode cL_law 121 = .ok (.iload_n 3, 1) := by decide +kernel
theorem dL_law_122 : decode cL_law 122 = .ok (.imul, 1) := by decide +kernel
theorem dL_law_123 : decode cL_law 123 = .ok (.bipush 20, 2) := by decide +kernel
theorem dL_law_125 : decode cL_law 125 = .ok (.iadd, 1) := by decide +kernel
theorem dL_law_126 : decode cL_law 126 = .ok (.iload 4, 2) := by decide +kernel
theorem dL_law_128 : decode cL_law 128 = .ok (.iadd, 1) := by decide +kernel
theorem dL_law_129 : decode cL_law 129 = .ok (.invokestatic 19, 3) := by decide +kernel
theorem dL_law_132 : decode cL_law 132 = .ok (.invokestatic 122, 3) := by decide +kernel
theorem dL_law_135 : decode cL_law 135 = .ok (.ifCond .eq 12, 3) := by decide +kernel
theorem dL_law_138 : decode cL_law 138 = .ok (.aload_n 1, 1) := by decide +kernel
theorem dL_law_139 : decode cL_law 139 = .ok (.iload 4, 2) := by decide +kernel
theorem dL_law_141 : decode cL_law 141 = .ok (.invokestatic 126, 3) := by decide +kernel
theorem dL_law_144 : decode cL_law 144 = .ok (.ifCond .ne 5, 3) := by decide +kernel
theorem dL_law_147 : decode cL_law 147 = .ok (.iconst 0, 1) := by decide +kernel
theorem dL_law_148 : decode cL_law 148 = .ok (.ireturn, 1) := by decide +kernel
theorem dL_law_149 : decode cL_law 149 = .ok (.iinc 4 1, 3) := by decide +kernel
theorem dL_law_152 : decode cL_law 152 = .ok (.goto (-45), 3) := by decide +kernel
theorem dL_law_155 : decode cL_law 155 = .ok (.aload_n 1, 1) := by decide +kernel
theorem dL_law_156 : decode cL_law 156 = .ok (.aload_n 0, 1) := by decide +kernel
theorem dL_law_157 : decode cL_law 157 = .ok (.bipush 40, 2) := by decide +kernel
theorem dL_law_159 : decode cL_law 159 = .ok (.iload_n 3, 1) := by decide +kernel
theorem dL_law_160 : decode cL_law 160 = .ok (.imul, 1) := by decide +kernel
theorem dL_law_161 : decode cL_law 161 = .ok (.bipush 23, 2) := by decide +kernel
theorem dL_law_163 : decode cL_law 163 = .ok (.iadd, 1) := by decide +kernel
theorem dL_law_164 : decode cL_law 164 = .ok (.aload_n 2, 1) := by decide +kernel
theorem dL_law_165 : decode cL_law 165 = .ok (.invokestatic 129, 3) := by decide +kernel
theorem dL_law_168 : decode cL_law 168 = .ok (.ifCond .eq 26, 3) := by decide +kernel
theorem dL_law_171 : decode cL_law 171 = .ok (.aload_n 1, 1) := by decide +kernel
theorem dL_law_172 : decode cL_law 172 = .ok (.aload_n 0, 1) := by decide +kernel
theorem dL_law_173 : decode cL_law 173 = .ok (.bipush 40, 2) := by decide +kernel
theorem dL_law_175 : decode cL_law 175 = .ok (.iload_n 3, 1) := by decide +kernel
theorem dL_law_176 : decode cL_law 176 = .ok (.imul, 1) := by decide +kernel
theorem dL_law_177 : decode cL_law 177 = .ok (.bipush 30, 2) := by decide +kernel
theorem dL_law_179 : decode cL_law 179 = .ok (.iadd, 1) := by decide +kernel
theorem dL_law_180 : decode cL_law 180 = .ok (.aload_n 2, 1) := by decide +kernel
theorem dL_law_181 : decode cL_law 181 = .ok (.invokestatic 129, 3) := by decide +kernel
theorem dL_law_184 : decode cL_law 184 = .ok (.ifCond .eq 10, 3) := by decide +kernel
theorem dL_law_187 : decode cL_law 187 = .ok (.aload_n 1, 1) := by decide +kernel
theorem dL_law_188 : decode cL_law 188 = .ok (.invokestatic 114, 3) := by decide +kernel
theorem dL_law_191 : decode cL_law 191 = .ok (.ifCond .ne 5, 3) := by decide +kernel
theorem dL_law_194 : decode cL_law 194 = .ok (.iconst 0, 1) := by decide +kernel
theorem dL_law_195 : decode cL_law 195 = .ok (.ireturn, 1) := by decide +kernel
theorem dL_law_196 : decode cL_law 196 = .ok (.iinc 3 1, 3) := by decide +kernel
theorem dL_law_199 : decode cL_law 199 = .ok (.goto (-130), 3) := by decide +kernel
theorem dL_law_202 : decode cL_law 202 = .ok (.aload_n 1, 1) := by decide +kernel
theorem dL_law_203 : decode cL_law 203 = .ok (.invokestatic 133, 3) := by decide +kernel
theorem dL_law_206 : decode cL_law 206 = .ok (.ifCond .ne 5, 3) := by decide +kernel
theorem dL_law_209 : decode cL_law 209 = .ok (.iconst 0, 1) := by decide +kernel
theorem dL_law_210 : decode cL_law 210 = .ok (.ireturn, 1) := by decide +kernel
theorem dL_law_211 : decode cL_law 211 = .ok (.aload_n 1, 1) := by decide +kernel
theorem dL_law_212 : decode cL_law 212 = .ok (.bipush 115, 2) := by decide +kernel
theorem dL_law_214 : decode cL_law 214 = .ok (.bipush 59, 2) := by decide +kernel
theorem dL_law_216 : decode cL_law 216 = .ok (.iconst 0, 1) := by decide +kernel
theorem dL_law_217 : decode cL_law 217 = .ok (.iconst 0, 1) := by decide +kernel
theorem dL_law_218 : decode cL_law 218 = .ok (.invokestatic 101, 3) := by decide +kernel
theorem dL_law_221 : decode cL_law 221 = .ok (.aload_n 1, 1) := by decide +kernel
theorem dL_law_222 : decode cL_law 222 = .ok (.bipush 12, 2) := by decide +kernel
theorem dL_law_224 : decode cL_law 224 = .ok (.iconst 0, 1) := by decide +kernel
theorem dL_law_225 : decode cL_law 225 = .ok (.iconst 3, 1) := by decide +kernel
theorem dL_law_226 : decode cL_law 226 = .ok (.invokestatic 94, 3) := by decide +kernel
theorem dL_law_229 : decode cL_law 229 = .ok (.aload_n 1, 1) := by decide +kernel
theorem dL_law_230 : decode cL_law 230 = .ok (.iconst 1, 1) := by decide +kernel
theorem dL_law_231 : decode cL_law 231 = .ok (.iconst 0, 1) := by decide +kernel
theorem dL_law_232 : decode cL_law 232 = .ok (.bipush 9, 2) := by decide +kernel
theorem dL_law_234 : decode cL_law 234 = .ok (.invokestatic 94, 3) := by decide +kernel
theorem dL_law_237 : decode cL_law 237 = .ok (.aload_n 1, 1) := by decide +kernel
theorem dL_law_238 : decode cL_law 238 = .ok (.invokevirtual 36, 3) := by decide +kernel
theorem dL_law_241 : decode cL_law 241 = .ok (.iconst 1, 1) := by decide +kernel
theorem dL_law_242 : decode cL_law 242 = .ok (.if_icmp .ne 112, 3) := by decide +kernel
theorem dL_law_245 : decode cL_law 245 = .ok (.aload_n 1, 1) := by decide +kernel
theorem dL_law_246 : decode cL_law 246 = .ok (.iconst 0, 1) := by decide +kernel
theorem dL_law_247 : decode cL_law 247 = .ok (.iconst 4, 1) := by decide +kernel
theorem dL_law_248 : decode cL_law 248 = .ok (.invokevirtual 46, 3) := by decide +kernel
theorem dL_law_251 : decode cL_law 251 = .ok (.iconst 1, 1) := by decide +kernel
theorem dL_law_252 : decode cL_law 252 = .ok (.if_icmp .ne 102, 3) := by decide +kernel
theorem dL_law_255 : decode cL_law 255 = .ok (.aload_n 1, 1) := by decide +kernel
theorem dL_law_256 : decode cL_law 256 = .ok (.iconst 0, 1) := by decide +kernel
theorem dL_law_257 : decode cL_law 257 = .ok (.iconst 0, 1) := by decide +kernel
theorem dL_law_258 : decode cL_law 258 = .ok (.invokevirtual 74, 3) := by decide +kernel
theorem dL_law_261 : decode cL_law 261 = .ok (.iconst 1, 1) := by decide +kernel
theorem dL_law_262 : decode cL_law 262 = .ok (.if_icmp .ne 92, 3) := by decide +kernel
theorem dL_law_265 : decode cL_law 265 = .ok (.aload_n 1, 1) := by decide +kernel
theorem dL_law_266 : decode cL_law 266 = .ok (.iconst 0, 1) := by decide +kernel
theorem dL_law_267 : decode cL_law 267 = .ok (.iconst 1, 1) := by decide +kernel
theorem dL_law_268 : decode cL_law 268 = .ok (.invokevirtual 74, 3) := by decide +kernel
theorem dL_law_271 : decode cL_law 271 = .ok (.iconst 2, 1) := by decide +kernel
theorem dL_law_272 : decode cL_law 272 = .ok (.if_icmp .ne 82, 3) := by decide +kernel
theorem dL_law_275 : decode cL_law 275 = .ok (.aload_n 1, 1) := by decide +kernel
theorem dL_law_276 : decode cL_law 276 = .ok (.iconst 0, 1) := by decide +kernel
theorem dL_law_277 : decode cL_law 277 = .ok (.iconst 0, 1) := by decide +kernel
theorem dL_law_278 : decode cL_law 278 = .ok (.iconst 1, 1) := by decide +kernel
theorem dL_law_279 : decode cL_law 279 = .ok (.invokevirtual 91, 3) := by decide +kernel
theorem dL_law_282 : decode cL_law 282 = .ok (.bipush (-2), 2) := by decide +kernel
theorem dL_law_284 : decode cL_law 284 = .ok (.if_icmp .ne 70, 3) := by decide +kernel
theorem dL_law_287 : decode cL_law 287 = .ok (.aload_n 1, 1) := by decide +kernel
theorem dL_law_288 : decode cL_law 288 = .ok (.iconst 0, 1) := by decide +kernel
theorem dL_law_289 : decode cL_law 289 = .ok (.iconst 0, 1) := by decide +kernel
theorem dL_law_290 : decode cL_law 290 = .ok (.iconst 0, 1) := by decide +kernel
theorem dL_law_291 : decode cL_law 291 = .ok (.invokevirtual 67, 3) := by decide +kernel
theorem dL_law_294 : decode cL_law 294 = .ok (.lconst 1, 1) := by decide +kernel
theorem dL_law_295 : decode cL_law 295 = .ok (.lcmp, 1) := by decide +kernel
theorem dL_law_296 : decode cL_law 296 = .ok (.ifCond .ne 58, 3) := by decide +kernel
theorem dL_law_299 : decode cL_law 299 = .ok (.aload_n 1, 1) := by decide +kernel
theorem dL_law_300 : decode cL_law 300 = .ok (.iconst 0, 1) := by decide +kernel
theorem dL_law_301 : decode cL_law 301 = .ok (.iconst 0, 1) := by decide +kernel
theorem dL_law_302 : decode cL_law 302 = .ok (.iconst 1, 1) := by decide +kernel
theorem dL_law_303 : decode cL_law 303 = .ok (.invokevirtual 67, 3) := by decide +kernel
theorem dL_law_306 : decode cL_law 306 = .ok (.lconst 1, 1) := by decide +kernel
theorem dL_law_307 : decode cL_law 307 = .ok (.lcmp, 1) := by decide +kernel
theorem dL_law_308 : decode cL_law 308 = .ok (.ifCond .ne 46, 3) := by decide +kernel
theorem dL_law_311 : decode cL_law 311 = .ok (.aload_n 1, 1) := by decide +kernel
theorem dL_law_312 : decode cL_law 312 = .ok (.iconst 0, 1) := by decide +kernel
theorem dL_law_313 : decode cL_law 313 = .ok (.invokevirtual 81, 3) := by decide +kernel
theorem dL_law_316 : decode cL_law 316 = .ok (.bipush 13, 2) := by decide +kernel
theorem dL_law_318 : decode cL_law 318 = .ok (.if_icmp .ne 36, 3) := by decide +kernel
theorem dL_law_321 : decode cL_law 321 = .ok (.aload_n 1, 1) := by decide +kernel
theorem dL_law_322 : decode cL_law 322 = .ok (.iconst 0, 1) := by decide +kernel
theorem dL_law_323 : decode cL_law 323 = .ok (.bipush 6, 2) := by decide +kernel
theorem dL_law_325 : decode cL_law 325 = .ok (.invokevirtual 46, 3) := by decide +kernel
theorem dL_law_328 : decode cL_law 328 = .ok (.bipush 45, 2) := by decide +kernel
theorem dL_law_330 : decode cL_law 330 = .ok (.if_icmp .ne 24, 3) := by decide +kernel
theorem dL_law_333 : decode cL_law 333 = .ok (.aload_n 1, 1) := by decide +kernel
theorem dL_law_334 : decode cL_law 334 = .ok (.iconst 0, 1) := by decide +kernel
theorem dL_law_335 : decode cL_law 335 = .ok (.iconst 0, 1) := by decide +kernel
theorem dL_law_336 : decode cL_law 336 = .ok (.iconst 1, 1) := by decide +kernel
theorem dL_law_337 : decode cL_law 337 = .ok (.invokevirtual 91, 3) := by decide +kernel
theorem dL_law_340 : decode cL_law 340 = .ok (.bipush (-2), 2) := by decide +kernel
theorem dL_law_342 : decode cL_law 342 = .ok (.if_icmp .ne 12, 3) := by decide +kernel
theorem dL_law_345 : decode cL_law 345 = .ok (.aload_n 1, 1) := by decide +kernel
theorem dL_law_346 : decode cL_law 346 = .ok (.iconst 0, 1) := by decide +kernel
theorem dL_law_347 : decode cL_law 347 = .ok (.iconst 0, 1) := by decide +kernel
theorem dL_law_348 : decode cL_law 348 = .ok (.invokestatic 122, 3) := by decide +kernel
theorem dL_law_351 : decode cL_law 351 = .ok (.ifCond .ne 5, 3) := by decide +kernel
theorem dL_law_354 : decode cL_law 354 = .ok (.iconst 0, 1) := by decide +kernel
theorem dL_law_355 : decode cL_law 355 = .ok (.ireturn, 1) := by decide +kernel
theorem dL_law_356 : decode cL_law 356 = .ok (.aload_n 1, 1) := by decide +kernel
theorem dL_law_357 : decode cL_law 357 = .ok (.invokevirtual 15, 3) := by decide +kernel
theorem dL_law_360 : decode cL_law 360 = .ok (.pop, 1) := by decide +kernel
theorem dL_law_361 : decode cL_law 361 = .ok (.iconst 0, 1) := by decide +kernel
theorem dL_law_362 : decode cL_law 362 = .ok (.istore_n 3, 1) := by decide +kernel
theorem dL_law_363 : decode cL_law 363 = .ok (.iload_n 3, 1) := by decide +kernel
theorem dL_law_364 : decode cL_law 364 = .ok (.sipush 200, 3) := by decide +kernel
theorem dL_law_367 : decode cL_law 367 = .ok (.if_icmp .ge 23, 3) := by decide +kernel
theorem dL_law_370 : decode cL_law 370 = .ok (.aload_n 1, 1) := by decide +kernel
theorem dL_law_371 : decode cL_law 371 = .ok (.bipush 115, 2) := by decide +kernel
theorem dL_law_373 : decode cL_law 373 = .ok (.invokevirtual 9, 3) := by decide +kernel
theorem dL_law_376 : decode cL_law 376 = .ok (.iload_n 3, 1) := by decide +kernel
theorem dL_law_377 : decode cL_law 377 = .ok (.iconst 1, 1) := by decide +kernel
theorem dL_law_378 : decode cL_law 378 = .ok (.iadd, 1) := by decide +kernel
theorem dL_law_379 : decode cL_law 379 = .ok (.if_icmp .eq 5, 3) := by decide +kernel
theorem dL_law_382 : decode cL_law 382 = .ok (.iconst 0, 1) := by decide +kernel
theorem dL_law_383 : decode cL_law 383 = .ok (.ireturn, 1) := by decide +kernel
theorem dL_law_384 : decode cL_law 384 = .ok (.iinc 3 1, 3) := by decide +kernel
theorem dL_law_387 : decode cL_law 387 = .ok (.goto (-24), 3) := by decide +kernel
theorem dL_law_390 : decode cL_law 390 = .ok (.aload_n 1, 1) := by decide +kernel
theorem dL_law_391 : decode cL_law 391 = .ok (.bipush 115, 2) := by decide +kernel
theorem dL_law_393 : decode cL_law 393 = .ok (.invokevirtual 9, 3) := by decide +kernel
theorem dL_law_396 : decode cL_law 396 = .ok (.bipush (-3), 2) := by decide +kernel
theorem dL_law_398 : decode cL_law 398 = .ok (.if_icmp .ne 24, 3) := by decide +kernel
theorem dL_law_401 : decode cL_law 401 = .ok (.aload_n 1, 1) := by decide +kernel
theorem dL_law_402 : decode cL_law 402 = .ok (.invokevirtual 33, 3) := by decide +kernel
theorem dL_law_405 : decode cL_law 405 = .ok (.ifCond .ne 17, 3) := by decide +kernel
theorem dL_law_408 : decode cL_law 408 = .ok (.aload_n 1, 1) := by decide +kernel
theorem dL_law_409 : decode cL_law 409 = .ok (.invokevirtual 15, 3) := by decide +kernel
theorem dL_law_412 : decode cL_law 412 = .ok (.sipush 200, 3) := by decide +kernel
theorem dL_law_415 : decode cL_law 415 = .ok (.if_icmp .ne 7, 3) := by decide +kernel
theorem dL_law_418 : decode cL_law 418 = .ok (.iconst 1, 1) := by decide +kernel
theorem dL_law_419 : decode cL_law 419 = .ok (.goto 4, 3) := by decide +kernel
theorem dL_law_422 : decode cL_law 422 = .ok (.iconst 0, 1) := by decide +kernel
theorem dL_law_423 : decode cL_law 423 = .ok (.ireturn, 1) := by decide +kernel

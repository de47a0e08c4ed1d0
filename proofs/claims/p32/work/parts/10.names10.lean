theorem dL_law_167 : decode cL_law 167 = .ok (.invokestatic 138, 3) := by decide +kernel
theorem dL_law_170 : decode cL_law 170 = .ok (.ifCond .ne 19, 3) := by decide +kernel
theorem dL_law_173 : decode cL_law 173 = .ok (.iload 9, 2) := by decide +kernel
theorem dL_law_175 : decode cL_law 175 = .ok (.iconst 2, 1) := by decide +kernel
theorem dL_law_176 : decode cL_law 176 = .ok (.ishr, 1) := by decide +kernel
theorem dL_law_177 : decode cL_law 177 = .ok (.sipush 300, 3) := by decide +kernel
theorem dL_law_180 : decode cL_law 180 = .ok (.invokestatic 138, 3) := by decide +kernel
theorem dL_law_183 : decode cL_law 183 = .ok (.bipush 100, 2) := by decide +kernel
theorem dL_law_185 : decode cL_law 185 = .ok (.isub, 1) := by decide +kernel
theorem dL_law_186 : decode cL_law 186 = .ok (.goto 15, 3) := by decide +kernel
theorem dL_law_189 : decode cL_law 189 = .ok (.iload 11, 2) := by decide +kernel
theorem dL_law_191 : decode cL_law 191 = .ok (.iload 9, 2) := by decide +kernel
theorem dL_law_193 : decode cL_law 193 = .ok (.iconst 2, 1) := by decide +kernel
theorem dL_law_194 : decode cL_law 194 = .ok (.ishr, 1) := by decide +kernel
theorem dL_law_195 : decode cL_law 195 = .ok (.bipush 60, 2) := by decide +kernel
theorem dL_law_197 : decode cL_law 197 = .ok (.invokestatic 138, 3) := by decide +kernel
theorem dL_law_200 : decode cL_law 200 = .ok (.isub, 1) := by decide +kernel
theorem dL_law_201 : decode cL_law 201 = .ok (.istore 12, 2) := by decide +kernel
theorem dL_law_203 : decode cL_law 203 = .ok (.iload 10, 2) := by decide +kernel
theorem dL_law_205 : decode cL_law 205 = .ok (.iconst 3, 1) := by decide +kernel
theorem dL_law_206 : decode cL_law 206 = .ok (.if_icmp .ge 260, 3) := by decide +kernel
theorem dL_law_209 : decode cL_law 209 = .ok (.iload 10, 2) := by decide +kernel
theorem dL_law_211 : decode cL_law 211 = .ok (.ifCond .ne 7, 3) := by decide +kernel
theorem dL_law_214 : decode cL_law 214 = .ok (.iconst 1, 1) := by decide +kernel
theorem dL_law_215 : decode cL_law 215 = .ok (.goto 14, 3) := by decide +kernel
theorem dL_law_218 : decode cL_law 218 = .ok (.iconst 1, 1) := by decide +kernel
theorem dL_law_219 : decode cL_law 219 = .ok (.iload 8, 2) := by decide +kernel
theorem dL_law_221 : decode cL_law 221 = .ok (.iconst 4, 1) := by decide +kernel
theorem dL_law_222 : decode cL_law 222 = .ok (.ishr, 1) := by decide +kernel
theorem dL_law_223 : decode cL_law 223 = .ok (.bipush 10, 2) := by decide +kernel
theorem dL_law_225 : decode cL_law 225 = .ok (.invokestatic 138, 3) := by decide +kernel
theorem dL_law_228 : decode cL_law 228 = .ok (.iadd, 1) := by decide +kernel
theorem dL_law_229 : decode cL_law 229 = .ok (.istore 13, 2) := by decide +kernel
theorem dL_law_231 : decode cL_law 231 = .ok (.iconst 1, 1) := by decide +kernel
theorem dL_law_232 : decode cL_law 232 = .ok (.iload 8, 2) := by decide +kernel
theorem dL_law_234 : decode cL_law 234 = .ok (.bipush 8, 2) := by decide +kernel
theorem dL_law_236 : decode cL_law 236 = .ok (.ishr, 1) := by decide +kernel
theorem dL_law_237 : decode cL_law 237 = .ok (.iload 8, 2) := by decide +kernel
theorem dL_law_239 : decode cL_law 239 = .ok (.bipush 12, 2) := by decide +kernel
theorem dL_law_241 : decode cL_law 241 = .ok (.ishr, 1) := by decide +kernel
theorem dL_law_242 : decode cL_law 242 = .ok (.iconst 2, 1) := by decide +kernel
theorem dL_law_243 : decode cL_law 243 = .ok (.invokestatic 138, 3) := by decide +kernel
theorem dL_law_246 : decode cL_law 246 = .ok (.ifCond .ne 7, 3) := by decide +kernel
theorem dL_law_249 : decode cL_law 249 = .ok (.iconst 3, 1) := by decide +kernel
theorem dL_law_250 : decode cL_law 250 = .ok (.goto 5, 3) := by decide +kernel
theorem dL_law_253 : decode cL_law 253 = .ok (.bipush 40, 2) := by decide +kernel
theorem dL_law_255 : decode cL_law 255 = .ok (.invokestatic 138, 3) := by decide +kernel
theorem dL_law_258 : decode cL_law 258 = .ok (.iadd, 1) := by decide +kernel
theorem dL_law_259 : decode cL_law 259 = .ok (.istore 14, 2) := by decide +kernel
theorem dL_law_261 : decode cL_law 261 = .ok (.iload 11, 2) := by decide +kernel
theorem dL_law_263 : decode cL_law 263 = .ok (.iconst 1, 1) := by decide +kernel
theorem dL_law_264 : decode cL_law 264 = .ok (.iadd, 1) := by decide +kernel
theorem dL_law_265 : decode cL_law 265 = .ok (.iload 8, 2) := by decide +kernel
theorem dL_law_267 : decode cL_law 267 = .ok (.bipush 16, 2) := by decide +kernel
theorem dL_law_269 : decode cL_law 269 = .ok (.ishr, 1) := by decide +kernel
theorem dL_law_270 : decode cL_law 270 = .ok (.bipush 9, 2) := by decide +kernel
theorem dL_law_272 : decode cL_law 272 = .ok (.invokestatic 138, 3) := by decide +kernel
theorem dL_law_275 : decode cL_law 275 = .ok (.iadd, 1) := by decide +kernel
theorem dL_law_276 : decode cL_law 276 = .ok (.istore 15, 2) := by decide +kernel
theorem dL_law_278 : decode cL_law 278 = .ok (.aload 6, 2) := by decide +kernel
theorem dL_law_280 : decode cL_law 280 = .ok (.iconst 0, 1) := by decide +kernel
theorem dL_law_281 : decode cL_law 281 = .ok (.iaload, 1) := by decide +kernel
theorem dL_law_282 : decode cL_law 282 = .ok (.aload 6, 2) := by decide +kernel
theorem dL_law_284 : decode cL_law 284 = .ok (.iconst 1, 1) := by decide +kernel
theorem dL_law_285 : decode cL_law 285 = .ok (.iaload, 1) := by decide +kernel
theorem dL_law_286 : decode cL_law 286 = .ok (.iadd, 1) := by decide +kernel
theorem dL_law_287 : decode cL_law 287 = .ok (.iload 13, 2) := by decide +kernel
theorem dL_law_289 : decode cL_law 289 = .ok (.iadd, 1) := by decide +kernel
theorem dL_law_290 : decode cL_law 290 = .ok (.bipush 60, 2) := by decide +kernel
theorem dL_law_292 : decode cL_law 292 = .ok (.if_icmp .le 6, 3) := by decide +kernel
theorem dL_law_295 : decode cL_law 295 = .ok (.goto 893, 3) := by decide +kernel
theorem dL_law_298 : decode cL_law 298 = .ok (.iconst 0, 1) := by decide +kernel
theorem dL_law_299 : decode cL_law 299 = .ok (.istore 16, 2) := by decide +kernel
theorem dL_law_301 : decode cL_law 301 = .ok (.iload 16, 2) := by decide +kernel
theorem dL_law_303 : decode cL_law 303 = .ok (.iload 13, 2) := by decide +kernel
theorem dL_law_305 : decode cL_law 305 = .ok (.if_icmp .ge 97, 3) := by decide +kernel
theorem dL_law_308 : decode cL_law 308 = .ok (.aload 6, 2) := by decide +kernel
theorem dL_law_310 : decode cL_law 310 = .ok (.iconst 0, 1) := by decide +kernel
theorem dL_law_311 : decode cL_law 311 = .ok (.iaload, 1) := by decide +kernel
theorem dL_law_312 : decode cL_law 312 = .ok (.istore 17, 2) := by decide +kernel
theorem dL_law_314 : decode cL_law 314 = .ok (.aload_n 2, 1) := by decide +kernel
theorem dL_law_315 : decode cL_law 315 = .ok (.iload 17, 2) := by decide +kernel
theorem dL_law_317 : decode cL_law 317 = .ok (.iload 15, 2) := by decide +kernel
theorem dL_law_319 : decode cL_law 319 = .ok (.iload 14, 2) := by decide +kernel
theorem dL_law_321 : decode cL_law 321 = .ok (.iload 16, 2) := by decide +kernel
theorem dL_law_323 : decode cL_law 323 = .ok (.imul, 1) := by decide +kernel
theorem dL_law_324 : decode cL_law 324 = .ok (.iadd, 1) := by decide +kernel
theorem dL_law_325 : decode cL_law 325 = .ok (.iastore, 1) := by decide +kernel
theorem dL_law_326 : decode cL_law 326 = .ok (.aload_n 3, 1) := by decide +kernel
theorem dL_law_327 : decode cL_law 327 = .ok (.iload 17, 2) := by decide +kernel
theorem dL_law_329 : decode cL_law 329 = .ok (.iconst 0, 1) := by decide +kernel
theorem dL_law_330 : decode cL_law 330 = .ok (.iastore, 1) := by decide +kernel
theorem dL_law_331 : decode cL_law 331 = .ok (.aload 6, 2) := by decide +kernel
theorem dL_law_333 : decode cL_law 333 = .ok (.iconst 0, 1) := by decide +kernel
theorem dL_law_334 : decode cL_law 334 = .ok (.iload 17, 2) := by decide +kernel
theorem dL_law_336 : decode cL_law 336 = .ok (.iconst 1, 1) := by decide +kernel
theorem dL_law_337 : decode cL_law 337 = .ok (.iadd, 1) := by decide +kernel
theorem dL_law_338 : decode cL_law 338 = .ok (.iastore, 1) := by decide +kernel
theorem dL_law_339 : decode cL_law 339 = .ok (.iload 17, 2) := by decide +kernel
theorem dL_law_341 : decode cL_law 341 = .ok (.iconst 1, 1) := by decide +kernel
theorem dL_law_342 : decode cL_law 342 = .ok (.isub, 1) := by decide +kernel
theorem dL_law_343 : decode cL_law 343 = .ok (.istore 18, 2) := by decide +kernel
theorem dL_law_345 : decode cL_law 345 = .ok (.iload 18, 2) := by decide +kernel
theorem dL_law_347 : decode cL_law 347 = .ok (.ifCond .le 17, 3) := by decide +kernel
theorem dL_law_350 : decode cL_law 350 = .ok (.aload 4, 2) := by decide +kernel
theorem dL_law_352 : decode cL_law 352 = .ok (.iload 18, 2) := by decide +kernel
theorem dL_law_354 : decode cL_law 354 = .ok (.iaload, 1) := by decide +kernel
theorem dL_law_355 : decode cL_law 355 = .ok (.ifCond .ne 9, 3) := by decide +kernel
theorem dL_law_358 : decode cL_law 358 = .ok (.iinc 18 (-1), 3) := by decide +kernel
theorem dL_law_361 : decode cL_law 361 = .ok (.goto (-16), 3) := by decide +kernel
theorem dL_law_364 : decode cL_law 364 = .ok (.aload 4, 2) := by decide +kernel
theorem dL_law_366 : decode cL_law 366 = .ok (.iload 17, 2) := by decide +kernel
theorem dL_law_368 : decode cL_law 368 = .ok (.iload 18, 2) := by decide +kernel
theorem dL_law_370 : decode cL_law 370 = .ok (.ifCond .lt 20, 3) := by decide +kernel
theorem dL_law_373 : decode cL_law 373 = .ok (.aload_n 2, 1) := by decide +kernel
theorem dL_law_374 : decode cL_law 374 = .ok (.iload 18, 2) := by decide +kernel
theorem dL_law_376 : decode cL_law 376 = .ok (.iload 17, 2) := by decide +kernel
theorem dL_law_378 : decode cL_law 378 = .ok (.iconst 1, 1) := by decide +kernel
theorem dL_law_379 : decode cL_law 379 = .ok (.iadd, 1) := by decide +kernel
theorem dL_law_380 : decode cL_law 380 = .ok (.aload 6, 2) := by decide +kernel
theorem dL_law_382 : decode cL_law 382 = .ok (.iconst 2, 1) := by decide +kernel
theorem dL_law_383 : decode cL_law 383 = .ok (.iaload, 1) := by decide +kernel
theorem dL_law_384 : decode cL_law 384 = .ok (.invokestatic 10, 3) := by decide +kernel
theorem dL_law_387 : decode cL_law 387 = .ok (.ifCond .ne 7, 3) := by decide +kernel
theorem dL_law_390 : decode cL_law 390 = .ok (.iconst 1, 1) := by decide +kernel
theorem dL_law_391 : decode cL_law 391 = .ok (.goto 4, 3) := by decide +kernel
theorem dL_law_394 : decode cL_law 394 = .ok (.iconst 0, 1) := by decide +kernel
theorem dL_law_395 : decode cL_law 395 = .ok (.iastore, 1) := by decide +kernel
theorem dL_law_396 : decode cL_law 396 = .ok (.iinc 16 1, 3) := by decide +kernel
theorem dL_law_399 : decode cL_law 399 = .ok (.goto (-98), 3) := by decide +kernel
theorem dL_law_402 : decode cL_law 402 = .ok (.iload 10, 2) := by decide +kernel
theorem dL_law_404 : decode cL_law 404 = .ok (.ifCond .ne 12, 3) := by decide +kernel
theorem dL_law_407 : decode cL_law 407 = .ok (.aload_n 1, 1) := by decide +kernel
theorem dL_law_408 : decode cL_law 408 = .ok (.iload 15, 2) := by decide +kernel
theorem dL_law_410 : decode cL_law 410 = .ok (.invokevirtual 28, 3) := by decide +kernel
theorem dL_law_413 : decode cL_law 413 = .ok (.goto 13, 3) := by decide +kernel
theorem dL_law_416 : decode cL_law 416 = .ok (.aload_n 1, 1) := by decide +kernel
theorem dL_law_417 : decode cL_law 417 = .ok (.iload 15, 2) := by decide +kernel
theorem dL_law_419 : decode cL_law 419 = .ok (.iload 14, 2) := by decide +kernel
theorem dL_law_421 : decode cL_law 421 = .ok (.iload 13, 2) := by decide +kernel
theorem dL_law_423 : decode cL_law 423 = .ok (.invokevirtual 141, 3) := by decide +kernel
theorem dL_law_426 : decode cL_law 426 = .ok (.istore 16, 2) := by decide +kernel
theorem dL_law_428 : decode cL_law 428 = .ok (.iload 16, 2) := by decide +kernel
theorem dL_law_430 : decode cL_law 430 = .ok (.aload_n 1, 1) := by decide +kernel
theorem dL_law_431 : decode cL_law 431 = .ok (.invokevirtual 84, 3) := by decide +kernel
theorem dL_law_434 : decode cL_law 434 = .ok (.if_icmp .ne 27, 3) := by decide +kernel
theorem dL_law_437 : decode cL_law 437 = .ok (.aload_n 1, 1) := by decide +kernel
theorem dL_law_438 : decode cL_law 438 = .ok (.iconst 0, 1) := by decide +kernel
theorem dL_law_439 : decode cL_law 439 = .ok (.iload 15, 2) := by decide +kernel
theorem dL_law_441 : decode cL_law 441 = .ok (.iconst 0, 1) := by decide +kernel
theorem dL_law_442 : decode cL_law 442 = .ok (.invokestatic 97, 3) := by decide +kernel
theorem dL_law_445 : decode cL_law 445 = .ok (.iconst 2, 1) := by decide +kernel
theorem dL_law_446 : decode cL_law 446 = .ok (.if_icmp .ne 15, 3) := by decide +kernel
theorem dL_law_449 : decode cL_law 449 = .ok (.aload_n 1, 1) := by decide +kernel
theorem dL_law_450 : decode cL_law 450 = .ok (.iconst 0, 1) := by decide +kernel
theorem dL_law_451 : decode cL_law 451 = .ok (.ldc 145, 2) := by decide +kernel
theorem dL_law_453 : decode cL_law 453 = .ok (.iconst 0, 1) := by decide +kernel
theorem dL_law_454 : decode cL_law 454 = .ok (.invokestatic 97, 3) := by decide +kernel
theorem dL_law_457 : decode cL_law 457 = .ok (.iconst 1, 1) := by decide +kernel
theorem dL_law_458 : decode cL_law 458 = .ok (.if_icmp .eq 5, 3) := by decide +kernel
theorem dL_law_461 : decode cL_law 461 = .ok (.iconst 0, 1) := by decide +kernel
theorem dL_law_462 : decode cL_law 462 = .ok (.ireturn, 1) := by decide +kernel
theorem dL_law_463 : decode cL_law 463 = .ok (.goto 565, 3) := by decide +kernel
theorem dL_law_466 : decode cL_law 466 = .ok (.iload 10, 2) := by decide +kernel
theorem dL_law_468 : decode cL_law 468 = .ok (.bipush 8, 2) := by decide +kernel
theorem dL_law_470 : decode cL_law 470 = .ok (.if_icmp .ge 147, 3) := by decide +kernel
theorem dL_law_473 : decode cL_law 473 = .ok (.aload_n 2, 1) := by decide +kernel
theorem dL_law_474 : decode cL_law 474 = .ok (.aload 6, 2) := by decide +kernel
theorem dL_law_476 : decode cL_law 476 = .ok (.iconst 0, 1) := by decide +kernel
theorem dL_law_477 : decode cL_law 477 = .ok (.iaload, 1) := by decide +kernel
theorem dL_law_478 : decode cL_law 478 = .ok (.iload 12, 2) := by decide +kernel
theorem dL_law_480 : decode cL_law 480 = .ok (.invokestatic 107, 3) := by decide +kernel
theorem dL_law_483 : decode cL_law 483 = .ok (.istore 13, 2) := by decide +kernel
theorem dL_law_485 : decode cL_law 485 = .ok (.iload 13, 2) := by decide +kernel
theorem dL_law_487 : decode cL_law 487 = .ok (.ifCond .lt 10, 3) := by decide +kernel
theorem dL_law_490 : decode cL_law 490 = .ok (.aload_n 3, 1) := by decide +kernel
theorem dL_law_491 : decode cL_law 491 = .ok (.iload 13, 2) := by decide +kernel
theorem dL_law_493 : decode cL_law 493 = .ok (.iaload, 1) := by decide +kernel
theorem dL_law_494 : decode cL_law 494 = .ok (.ifCond .eq 17, 3) := by decide +kernel
theorem dL_law_497 : decode cL_law 497 = .ok (.aload 5, 2) := by decide +kernel
theorem dL_law_499 : decode cL_law 499 = .ok (.aload 6, 2) := by decide +kernel
theorem dL_law_501 : decode cL_law 501 = .ok (.iconst 1, 1) := by decide +kernel
theorem dL_law_502 : decode cL_law 502 = .ok (.iaload, 1) := by decide +kernel
theorem dL_law_503 : decode cL_law 503 = .ok (.iload 12, 2) := by decide +kernel
theorem dL_law_505 : decode cL_law 505 = .ok (.invokestatic 107, 3) := by decide +kernel
theorem dL_law_508 : decode cL_law 508 = .ok (.ifCond .lt 17, 3) := by decide +kernel
theorem dL_law_511 : decode cL_law 511 = .ok (.aload_n 1, 1) := by decide +kernel
theorem dL_law_512 : decode cL_law 512 = .ok (.iconst 1, 1) := by decide +kernel
theorem dL_law_513 : decode cL_law 513 = .ok (.iload 12, 2) := by decide +kernel
theorem dL_law_515 : decode cL_law 515 = .ok (.iconst 0, 1) := by decide +kernel
theorem dL_law_516 : decode cL_law 516 = .ok (.invokestatic 97, 3) := by decide +kernel
theorem dL_law_519 : decode cL_law 519 = .ok (.iconst 2, 1) := by decide +kernel
theorem dL_law_520 : decode cL_law 520 = .ok (.if_icmp .eq 668, 3) := by decide +kernel
theorem dL_law_523 : decode cL_law 523 = .ok (.iconst 0, 1) := by decide +kernel
theorem dL_law_524 : decode cL_law 524 = .ok (.ireturn, 1) := by decide +kernel
theorem dL_law_525 : decode cL_law 525 = .ok (.iload 13, 2) := by decide +kernel
theorem dL_law_527 : decode cL_law 527 = .ok (.ifCond .ge 20, 3) := by decide +kernel
theorem dL_law_530 : decode cL_law 530 = .ok (.aload 6, 2) := by decide +kernel
theorem dL_law_532 : decode cL_law 532 = .ok (.iconst 0, 1) := by decide +kernel
theorem dL_law_533 : decode cL_law 533 = .ok (.iaload, 1) := by decide +kernel
theorem dL_law_534 : decode cL_law 534 = .ok (.aload 6, 2) := by decide +kernel
theorem dL_law_536 : decode cL_law 536 = .ok (.iconst 1, 1) := by decide +kernel
theorem dL_law_537 : decode cL_law 537 = .ok (.iaload, 1) := by decide +kernel
theorem dL_law_538 : decode cL_law 538 = .ok (.iadd, 1) := by decide +kernel
theorem dL_law_539 : decode cL_law 539 = .ok (.bipush 60, 2) := by decide +kernel
theorem dL_law_541 : decode cL_law 541 = .ok (.if_icmp .ne 6, 3) := by decide +kernel
theorem dL_law_544 : decode cL_law 544 = .ok (.goto 644, 3) := by decide +kernel
theorem dL_law_547 : decode cL_law 547 = .ok (.iload 13, 2) := by decide +kernel
theorem dL_law_549 : decode cL_law 549 = .ok (.ifCond .lt 11, 3) := by decide +kernel
theorem dL_law_552 : decode cL_law 552 = .ok (.aload_n 3, 1) := by decide +kernel
theorem dL_law_553 : decode cL_law 553 = .ok (.iload 13, 2) := by decide +kernel
theorem dL_law_555 : decode cL_law 555 = .ok (.iconst 0, 1) := by decide +kernel
theorem dL_law_556 : decode cL_law 556 = .ok (.iastore, 1) := by decide +kernel
theorem dL_law_557 : decode cL_law 557 = .ok (.goto 20, 3) := by decide +kernel
theorem dL_law_560 : decode cL_law 560 = .ok (.aload 5, 2) := by decide +kernel
theorem dL_law_562 : decode cL_law 562 = .ok (.aload 6, 2) := by decide +kernel
theorem dL_law_564 : decode cL_law 564 = .ok (.iconst 1, 1) := by decide +kernel
theorem dL_law_565 : decode cL_law 565 = .ok (.iaload, 1) := by decide +kernel
theorem dL_law_566 : decode cL_law 566 = .ok (.iload 12, 2) := by decide +kernel
theorem dL_law_568 : decode cL_law 568 = .ok (.iastore, 1) := by decide +kernel
theorem dL_law_569 : decode cL_law 569 = .ok (.aload 6, 2) := by decide +kernel
theorem dL_law_571 : decode cL_law 571 = .ok (.iconst 1, 1) := by decide +kernel
theorem dL_law_572 : decode cL_law 572 = .ok (.dup2, 1) := by decide +kernel
theorem dL_law_573 : decode cL_law 573 = .ok (.iaload, 1) := by decide +kernel
theorem dL_law_574 : decode cL_law 574 = .ok (.iconst 1, 1) := by decide +kernel
theorem dL_law_575 : decode cL_law 575 = .ok (.iadd, 1) := by decide +kernel
theorem dL_law_576 : decode cL_law 576 = .ok (.iastore, 1) := by decide +kernel
theorem dL_law_577 : decode cL_law 577 = .ok (.aload 6, 2) := by decide +kernel
theorem dL_law_579 : decode cL_law 579 = .ok (.iconst 1, 1) := by decide +kernel
theorem dL_law_580 : decode cL_law 580 = .ok (.iaload, 1) := by decide +kernel
theorem dL_law_581 : decode cL_law 581 = .ok (.aload 6, 2) := by decide +kernel
theorem dL_law_583 : decode cL_law 583 = .ok (.iconst 3, 1) := by decide +kernel
theorem dL_law_584 : decode cL_law 584 = .ok (.iaload, 1) := by decide +kernel
theorem dL_law_585 : decode cL_law 585 = .ok (.if_icmp .ne 14, 3) := by decide +kernel
theorem dL_law_588 : decode cL_law 588 = .ok (.aload_n 2, 1) := by decide +kernel
theorem dL_law_589 : decode cL_law 589 = .ok (.aload_n 3, 1) := by decide +kernel
theorem dL_law_590 : decode cL_law 590 = .ok (.aload 4, 2) := by decide +kernel
theorem dL_law_592 : decode cL_law 592 = .ok (.aload 5, 2) := by decide +kernel
theorem dL_law_594 : decode cL_law 594 = .ok (.aload 6, 2) := by decide +kernel
theorem dL_law_596 : decode cL_law 596 = .ok (.invokestatic 146, 3) := by decide +kernel
theorem dL_law_599 : decode cL_law 599 = .ok (.aload_n 1, 1) := by decide +kernel
theorem dL_law_600 : decode cL_law 600 = .ok (.iload 12, 2) := by decide +kernel
theorem dL_law_602 : decode cL_law 602 = .ok (.invokevirtual 34, 3) := by decide +kernel
theorem dL_law_605 : decode cL_law 605 = .ok (.aload 6, 2) := by decide +kernel
theorem dL_law_607 : decode cL_law 607 = .ok (.iconst 1, 1) := by decide +kernel
theorem dL_law_608 : decode cL_law 608 = .ok (.iaload, 1) := by decide +kernel
theorem dL_law_609 : decode cL_law 609 = .ok (.if_icmp .eq 5, 3) := by decide +kernel
theorem dL_law_612 : decode cL_law 612 = .ok (.iconst 0, 1) := by decide +kernel
theorem dL_law_613 : decode cL_law 613 = .ok (.ireturn, 1) := by decide +kernel
theorem dL_law_614 : decode cL_law 614 = .ok (.goto 414, 3) := by decide +kernel
theorem dL_law_617 : decode cL_law 617 = .ok (.iload 10, 2) := by decide +kernel
theorem dL_law_619 : decode cL_law 619 = .ok (.bipush 10, 2) := by decide +kernel
theorem dL_law_621 : decode cL_law 621 = .ok (.if_icmp .ge 160, 3) := by decide +kernel
theorem dL_law_624 : decode cL_law 624 = .ok (.aload 5, 2) := by decide +kernel
theorem dL_law_626 : decode cL_law 626 = .ok (.aload 6, 2) := by decide +kernel
theorem dL_law_628 : decode cL_law 628 = .ok (.iconst 1, 1) := by decide +kernel
theorem dL_law_629 : decode cL_law 629 = .ok (.iaload, 1) := by decide +kernel
theorem dL_law_630 : decode cL_law 630 = .ok (.iload 12, 2) := by decide +kernel
theorem dL_law_632 : decode cL_law 632 = .ok (.invokestatic 107, 3) := by decide +kernel
theorem dL_law_635 : decode cL_law 635 = .ok (.ifCond .ge 10, 3) := by decide +kernel
theorem dL_law_638 : decode cL_law 638 = .ok (.aload 6, 2) := by decide +kernel
theorem dL_law_640 : decode cL_law 640 = .ok (.iconst 0, 1) := by decide +kernel
theorem dL_law_641 : decode cL_law 641 = .ok (.iaload, 1) := by decide +kernel
theorem dL_law_642 : decode cL_law 642 = .ok (.ifCond .ne 8, 3) := by decide +kernel
theorem dL_law_645 : decode cL_law 645 = .ok (.iload 12, 2) := by decide +kernel
theorem dL_law_647 : decode cL_law 647 = .ok (.goto 16, 3) := by decide +kernel
theorem dL_law_650 : decode cL_law 650 = .ok (.aload_n 2, 1) := by decide +kernel
theorem dL_law_651 : decode cL_law 651 = .ok (.iload 9, 2) := by decide +kernel
theorem dL_law_653 : decode cL_law 653 = .ok (.iconst 5, 1) := by decide +kernel
theorem dL_law_654 : decode cL_law 654 = .ok (.ishr, 1) := by decide +kernel
theorem dL_law_655 : decode cL_law 655 = .ok (.aload 6, 2) := by decide +kernel
theorem dL_law_657 : decode cL_law 657 = .ok (.iconst 0, 1) := by decide +kernel
theorem dL_law_658 : decode cL_law 658 = .ok (.iaload, 1) := by decide +kernel
theorem dL_law_659 : decode cL_law 659 = .ok (.invokestatic 138, 3) := by decide +kernel
theorem dL_law_662 : decode cL_law 662 = .ok (.iaload, 1) := by decide +kernel
theorem dL_law_663 : decode cL_law 663 = .ok (.istore 13, 2) := by decide +kernel
theorem dL_law_665 : decode cL_law 665 = .ok (.aload_n 2, 1) := by decide +kernel
theorem dL_law_666 : decode cL_law 666 = .ok (.aload 6, 2) := by decide +kernel
theorem dL_law_668 : decode cL_law 668 = .ok (.iconst 0, 1) := by decide +kernel
theorem dL_law_669 : decode cL_law 669 = .ok (.iaload, 1) := by decide +kernel
theorem dL_law_670 : decode cL_law 670 = .ok (.iload 13, 2) := by decide +kernel
theorem dL_law_672 : decode cL_law 672 = .ok (.invokestatic 107, 3) := by decide +kernel
theorem dL_law_675 : decode cL_law 675 = .ok (.istore 14, 2) := by decide +kernel
theorem dL_law_677 : decode cL_law 677 = .ok (.aload 5, 2) := by decide +kernel
theorem dL_law_679 : decode cL_law 679 = .ok (.aload 6, 2) := by decide +kernel
theorem dL_law_681 : decode cL_law 681 = .ok (.iconst 1, 1) := by decide +kernel
theorem dL_law_682 : decode cL_law 682 = .ok (.iaload, 1) := by decide +kernel
theorem dL_law_683 : decode cL_law 683 = .ok (.iload 13, 2) := by decide +kernel
theorem dL_law_685 : decode cL_law 685 = .ok (.invokestatic 107, 3) := by decide +kernel
theorem dL_law_688 : decode cL_law 688 = .ok (.istore 15, 2) := by decide +kernel
theorem dL_law_690 : decode cL_law 690 = .ok (.iload 15, 2) := by decide +kernel
theorem dL_law_692 : decode cL_law 692 = .ok (.ifCond .ge 30, 3) := by decide +kernel
theorem dL_law_695 : decode cL_law 695 = .ok (.iload 14, 2) := by decide +kernel
theorem dL_law_697 : decode cL_law 697 = .ok (.ifCond .lt 11, 3) := by decide +kernel
theorem dL_law_700 : decode cL_law 700 = .ok (.aload_n 3, 1) := by decide +kernel
theorem dL_law_701 : decode cL_law 701 = .ok (.iload 14, 2) := by decide +kernel
theorem dL_law_703 : decode cL_law 703 = .ok (.iaload, 1) := by decide +kernel
theorem dL_law_704 : decode cL_law 704 = .ok (.iconst 1, 1) := by decide +kernel
theorem dL_law_705 : decode cL_law 705 = .ok (.if_icmp .ne 17, 3) := by decide +kernel
theorem dL_law_708 : decode cL_law 708 = .ok (.aload_n 1, 1) := by decide +kernel
theorem dL_law_709 : decode cL_law 709 = .ok (.iconst 2, 1) := by decide +kernel
theorem dL_law_710 : decode cL_law 710 = .ok (.iload 13, 2) := by decide +kernel
theorem dL_law_712 : decode cL_law 712 = .ok (.iconst 0, 1) := by decide +kernel
theorem dL_law_713 : decode cL_law 713 = .ok (.invokestatic 97, 3) := by decide +kernel
theorem dL_law_716 : decode cL_law 716 = .ok (.iconst 3, 1) := by decide +kernel
theorem dL_law_717 : decode cL_law 717 = .ok (.if_icmp .eq 471, 3) := by decide +kernel
theorem dL_law_720 : decode cL_law 720 = .ok (.iconst 0, 1) := by decide +kernel
theorem dL_law_721 : decode cL_law 721 = .ok (.ireturn, 1) := by decide +kernel
theorem dL_law_722 : decode cL_law 722 = .ok (.iload 15, 2) := by decide +kernel
theorem dL_law_724 : decode cL_law 724 = .ok (.ifCond .lt 26, 3) := by decide +kernel
theorem dL_law_727 : decode cL_law 727 = .ok (.aload 6, 2) := by decide +kernel
theorem dL_law_729 : decode cL_law 729 = .ok (.iconst 1, 1) := by decide +kernel
theorem dL_law_730 : decode cL_law 730 = .ok (.dup2, 1) := by decide +kernel
theorem dL_law_731 : decode cL_law 731 = .ok (.iaload, 1) := by decide +kernel
theorem dL_law_732 : decode cL_law 732 = .ok (.iconst 1, 1) := by decide +kernel
theorem dL_law_733 : decode cL_law 733 = .ok (.isub, 1) := by decide +kernel
theorem dL_law_734 : decode cL_law 734 = .ok (.iastore, 1) := by decide +kernel
theorem dL_law_735 : decode cL_law 735 = .ok (.aload 5, 2) := by decide +kernel
theorem dL_law_737 : decode cL_law 737 = .ok (.iload 15, 2) := by decide +kernel
theorem dL_law_739 : decode cL_law 739 = .ok (.aload 5, 2) := by decide +kernel
theorem dL_law_741 : decode cL_law 741 = .ok (.aload 6, 2) := by decide +kernel
theorem dL_law_743 : decode cL_law 743 = .ok (.iconst 1, 1) := by decide +kernel
theorem dL_law_744 : decode cL_law 744 = .ok (.iaload, 1) := by decide +kernel
theorem dL_law_745 : decode cL_law 745 = .ok (.iaload, 1) := by decide +kernel
theorem dL_law_746 : decode cL_law 746 = .ok (.iastore, 1) := by decide +kernel
theorem dL_law_747 : decode cL_law 747 = .ok (.goto 8, 3) := by decide +kernel
theorem dL_law_750 : decode cL_law 750 = .ok (.aload_n 3, 1) := by decide +kernel
theorem dL_law_751 : decode cL_law 751 = .ok (.iload 14, 2) := by decide +kernel
theorem dL_law_753 : decode cL_law 753 = .ok (.iconst 1, 1) := by decide +kernel
theorem dL_law_754 : decode cL_law 754 = .ok (.iastore, 1) := by decide +kernel
theorem dL_law_755 : decode cL_law 755 = .ok (.aload_n 1, 1) := by decide +kernel
theorem dL_law_756 : decode cL_law 756 = .ok (.iload 13, 2) := by decide +kernel
theorem dL_law_758 : decode cL_law 758 = .ok (.invokevirtual 37, 3) := by decide +kernel
theorem dL_law_761 : decode cL_law 761 = .ok (.aload_n 2, 1) := by decide +kernel
theorem dL_law_762 : decode cL_law 762 = .ok (.aload_n 3, 1) := by decide +kernel
theorem dL_law_763 : decode cL_law 763 = .ok (.aload 5, 2) := by decide +kernel
theorem dL_law_765 : decode cL_law 765 = .ok (.aload 6, 2) := by decide +kernel
theorem dL_law_767 : decode cL_law 767 = .ok (.ldc2_w 101, 3) := by decide +kernel
theorem dL_law_770 : decode cL_law 770 = .ok (.invokestatic 103, 3) := by decide +kernel
theorem dL_law_773 : decode cL_law 773 = .ok (.if_icmp .eq 5, 3) := by decide +kernel
theorem dL_law_776 : decode cL_law 776 = .ok (.iconst 0, 1) := by decide +kernel
theorem dL_law_777 : decode cL_law 777 = .ok (.ireturn, 1) := by decide +kernel
theorem dL_law_778 : decode cL_law 778 = .ok (.goto 250, 3) := by decide +kernel
theorem dL_law_781 : decode cL_law 781 = .ok (.iload 10, 2) := by decide +kernel
theorem dL_law_783 : decode cL_law 783 = .ok (.bipush 10, 2) := by decide +kernel
theorem dL_law_785 : decode cL_law 785 = .ok (.if_icmp .ne 27, 3) := by decide +kernel
theorem dL_law_788 : decode cL_law 788 = .ok (.aload_n 2, 1) := by decide +kernel
theorem dL_law_789 : decode cL_law 789 = .ok (.aload_n 3, 1) := by decide +kernel
theorem dL_law_790 : decode cL_law 790 = .ok (.aload 4, 2) := by decide +kernel
theorem dL_law_792 : decode cL_law 792 = .ok (.aload 5, 2) := by decide +kernel
theorem dL_law_794 : decode cL_law 794 = .ok (.aload 6, 2) := by decide +kernel
theorem dL_law_796 : decode cL_law 796 = .ok (.invokestatic 146, 3) := by decide +kernel
theorem dL_law_799 : decode cL_law 799 = .ok (.aload_n 1, 1) := by decide +kernel
theorem dL_law_800 : decode cL_law 800 = .ok (.invokevirtual 150, 3) := by decide +kernel
theorem dL_law_803 : decode cL_law 803 = .ok (.aload_n 1, 1) := by decide +kernel
theorem dL_law_804 : decode cL_law 804 = .ok (.invokevirtual 84, 3) := by decide +kernel
theorem dL_law_807 : decode cL_law 807 = .ok (.if_icmp .eq 221, 3) := by decide +kernel
theorem dL_law_810 : decode cL_law 810 = .ok (.iconst 0, 1) := by decide +kernel
theorem dL_law_811 : decode cL_law 811 = .ok (.ireturn, 1) := by decide +kernel
theorem dL_law_812 : decode cL_law 812 = .ok (.iload 9, 2) := by decide +kernel
theorem dL_law_814 : decode cL_law 814 = .ok (.iconst 5, 1) := by decide +kernel
theorem dL_law_815 : decode cL_law 815 = .ok (.invokestatic 138, 3) := by decide +kernel
theorem dL_law_818 : decode cL_law 818 = .ok (.ifCond .ne 15, 3) := by decide +kernel
theorem dL_law_821 : decode cL_law 821 = .ok (.iload 9, 2) := by decide +kernel
theorem dL_law_823 : decode cL_law 823 = .ok (.iconst 3, 1) := by decide +kernel
theorem dL_law_824 : decode cL_law 824 = .ok (.ishr, 1) := by decide +kernel
theorem dL_law_825 : decode cL_law 825 = .ok (.bipush 21, 2) := by decide +kernel
theorem dL_law_827 : decode cL_law 827 = .ok (.invokestatic 138, 3) := by decide +kernel
theorem dL_law_830 : decode cL_law 830 = .ok (.goto 11, 3) := by decide +kernel
theorem dL_law_833 : decode cL_law 833 = .ok (.iload 9, 2) := by decide +kernel
theorem dL_law_835 : decode cL_law 835 = .ok (.iconst 3, 1) := by decide +kernel
theorem dL_law_836 : decode cL_law 836 = .ok (.ishr, 1) := by decide +kernel
theorem dL_law_837 : decode cL_law 837 = .ok (.iconst 4, 1) := by decide +kernel
theorem dL_law_838 : decode cL_law 838 = .ok (.invokestatic 138, 3) := by decide +kernel
theorem dL_law_841 : decode cL_law 841 = .ok (.istore 13, 2) := by decide +kernel
theorem dL_law_843 : decode cL_law 843 = .ok (.iconst 1, 1) := by decide +kernel
theorem dL_law_844 : decode cL_law 844 = .ok (.iload 9, 2) := by decide +kernel
theorem dL_law_846 : decode cL_law 846 = .ok (.bipush 8, 2) := by decide +kernel
theorem dL_law_848 : decode cL_law 848 = .ok (.ishr, 1) := by decide +kernel
theorem dL_law_849 : decode cL_law 849 = .ok (.bipush 6, 2) := by decide +kernel
theorem dL_law_851 : decode cL_law 851 = .ok (.invokestatic 138, 3) := by decide +kernel
theorem dL_law_854 : decode cL_law 854 = .ok (.iadd, 1) := by decide +kernel
theorem dL_law_855 : decode cL_law 855 = .ok (.istore 14, 2) := by decide +kernel
theorem dL_law_857 : decode cL_law 857 = .ok (.iconst 0, 1) := by decide +kernel
theorem dL_law_858 : decode cL_law 858 = .ok (.istore 15, 2) := by decide +kernel
theorem dL_law_860 : decode cL_law 860 = .ok (.iconst 0, 1) := by decide +kernel
theorem dL_law_861 : decode cL_law 861 = .ok (.istore 16, 2) := by decide +kernel
theorem dL_law_863 : decode cL_law 863 = .ok (.iload 16, 2) := by decide +kernel
theorem dL_law_865 : decode cL_law 865 = .ok (.aload 6, 2) := by decide +kernel
theorem dL_law_867 : decode cL_law 867 = .ok (.iconst 0, 1) := by decide +kernel
theorem dL_law_868 : decode cL_law 868 = .ok (.iaload, 1) := by decide +kernel
theorem dL_law_869 : decode cL_law 869 = .ok (.if_icmp .ge 31, 3) := by decide +kernel
theorem dL_law_872 : decode cL_law 872 = .ok (.aload_n 3, 1) := by decide +kernel
theorem dL_law_873 : decode cL_law 873 = .ok (.iload 16, 2) := by decide +kernel
theorem dL_law_875 : decode cL_law 875 = .ok (.iaload, 1) := by decide +kernel
theorem dL_law_876 : decode cL_law 876 = .ok (.iconst 1, 1) := by decide +kernel
theorem dL_law_877 : decode cL_law 877 = .ok (.if_icmp .ne 6, 3) := by decide +kernel
theorem dL_law_880 : decode cL_law 880 = .ok (.goto 14, 3) := by decide +kernel
theorem dL_law_883 : decode cL_law 883 = .ok (.aload_n 2, 1) := by decide +kernel
theorem dL_law_884 : decode cL_law 884 = .ok (.iload 15, 2) := by decide +kernel
theorem dL_law_886 : decode cL_law 886 = .ok (.aload_n 2, 1) := by decide +kernel
theorem dL_law_887 : decode cL_law 887 = .ok (.iload 16, 2) := by decide +kernel
theorem dL_law_889 : decode cL_law 889 = .ok (.iaload, 1) := by decide +kernel
theorem dL_law_890 : decode cL_law 890 = .ok (.iastore, 1) := by decide +kernel
theorem dL_law_891 : decode cL_law 891 = .ok (.iinc 15 1, 3) := by decide +kernel
theorem dL_law_894 : decode cL_law 894 = .ok (.iinc 16 1, 3) := by decide +kernel
theorem dL_law_897 : decode cL_law 897 = .ok (.goto (-34), 3) := by decide +kernel
theorem dL_law_900 : decode cL_law 900 = .ok (.iconst 0, 1) := by decide +kernel
theorem dL_law_901 : decode cL_law 901 = .ok (.istore 16, 2) := by decide +kernel
theorem dL_law_903 : decode cL_law 903 = .ok (.iload 16, 2) := by decide +kernel
theorem dL_law_905 : decode cL_law 905 = .ok (.aload 6, 2) := by decide +kernel
theorem dL_law_907 : decode cL_law 907 = .ok (.iconst 1, 1) := by decide +kernel
theorem dL_law_908 : decode cL_law 908 = .ok (.iaload, 1) := by decide +kernel
theorem dL_law_909 : decode cL_law 909 = .ok (.if_icmp .ge 24, 3) := by decide +kernel
theorem dL_law_912 : decode cL_law 912 = .ok (.aload_n 2, 1) := by decide +kernel
theorem dL_law_913 : decode cL_law 913 = .ok (.iconst 0, 1) := by decide +kernel
theorem dL_law_914 : decode cL_law 914 = .ok (.iload 15, 2) := by decide +kernel
theorem dL_law_916 : decode cL_law 916 = .ok (.aload 5, 2) := by decide +kernel
theorem dL_law_918 : decode cL_law 918 = .ok (.iload 16, 2) := by decide +kernel
theorem dL_law_920 : decode cL_law 920 = .ok (.iaload, 1) := by decide +kernel
theorem dL_law_921 : decode cL_law 921 = .ok (.invokestatic 20, 3) := by decide +kernel
theorem dL_law_924 : decode cL_law 924 = .ok (.iinc 15 1, 3) := by decide +kernel
theorem dL_law_927 : decode cL_law 927 = .ok (.iinc 16 1, 3) := by decide +kernel
theorem dL_law_930 : decode cL_law 930 = .ok (.goto (-27), 3) := by decide +kernel
theorem dL_law_933 : decode cL_law 933 = .ok (.iconst 0, 1) := by decide +kernel
theorem dL_law_934 : decode cL_law 934 = .ok (.istore 16, 2) := by decide +kernel
theorem dL_law_936 : decode cL_law 936 = .ok (.iload 16, 2) := by decide +kernel
theorem dL_law_938 : decode cL_law 938 = .ok (.bipush 64, 2) := by decide +kernel
theorem dL_law_940 : decode cL_law 940 = .ok (.if_icmp .ge 14, 3) := by decide +kernel
theorem dL_law_943 : decode cL_law 943 = .ok (.aload_n 3, 1) := by decide +kernel
theorem dL_law_944 : decode cL_law 944 = .ok (.iload 16, 2) := by decide +kernel
theorem dL_law_946 : decode cL_law 946 = .ok (.iconst 0, 1) := by decide +kernel
theorem dL_law_947 : decode cL_law 947 = .ok (.iastore, 1) := by decide +kernel
theorem dL_law_948 : decode cL_law 948 = .ok (.iinc 16 1, 3) := by decide +kernel
theorem dL_law_951 : decode cL_law 951 = .ok (.goto (-15), 3) := by decide +kernel
theorem dL_law_954 : decode cL_law 954 = .ok (.aload 6, 2) := by decide +kernel
theorem dL_law_956 : decode cL_law 956 = .ok (.iconst 0, 1) := by decide +kernel
theorem dL_law_957 : decode cL_law 957 = .ok (.iload 15, 2) := by decide +kernel
theorem dL_law_959 : decode cL_law 959 = .ok (.iastore, 1) := by decide +kernel
theorem dL_law_960 : decode cL_law 960 = .ok (.aload 6, 2) := by decide +kernel
theorem dL_law_962 : decode cL_law 962 = .ok (.iconst 1, 1) := by decide +kernel
theorem dL_law_963 : decode cL_law 963 = .ok (.iconst 0, 1) := by decide +kernel
theorem dL_law_964 : decode cL_law 964 = .ok (.iastore, 1) := by decide +kernel
theorem dL_law_965 : decode cL_law 965 = .ok (.aload 6, 2) := by decide +kernel
theorem dL_law_967 : decode cL_law 967 = .ok (.iconst 2, 1) := by decide +kernel
theorem dL_law_968 : decode cL_law 968 = .ok (.iload 13, 2) := by decide +kernel
theorem dL_law_970 : decode cL_law 970 = .ok (.iastore, 1) := by decide +kernel
theorem dL_law_971 : decode cL_law 971 = .ok (.aload 6, 2) := by decide +kernel
theorem dL_law_973 : decode cL_law 973 = .ok (.iconst 3, 1) := by decide +kernel
theorem dL_law_974 : decode cL_law 974 = .ok (.iload 14, 2) := by decide +kernel
theorem dL_law_976 : decode cL_law 976 = .ok (.iastore, 1) := by decide +kernel
theorem dL_law_977 : decode cL_law 977 = .ok (.aload_n 1, 1) := by decide +kernel
theorem dL_law_978 : decode cL_law 978 = .ok (.bipush 6, 2) := by decide +kernel
theorem dL_law_980 : decode cL_law 980 = .ok (.bipush 21, 2) := by decide +kernel
theorem dL_law_982 : decode cL_law 982 = .ok (.iload 14, 2) := by decide +kernel
theorem dL_law_984 : decode cL_law 984 = .ok (.invokestatic 97, 3) := by decide +kernel
theorem dL_law_987 : decode cL_law 987 = .ok (.iconst 1, 1) := by decide +kernel
theorem dL_law_988 : decode cL_law 988 = .ok (.if_icmp .ne 38, 3) := by decide +kernel
theorem dL_law_991 : decode cL_law 991 = .ok (.aload_n 1, 1) := by decide +kernel
theorem dL_law_992 : decode cL_law 992 = .ok (.bipush 6, 2) := by decide +kernel
theorem dL_law_994 : decode cL_law 994 = .ok (.iload 13, 2) := by decide +kernel
theorem dL_law_996 : decode cL_law 996 = .ok (.iconst 0, 1) := by decide +kernel
theorem dL_law_997 : decode cL_law 997 = .ok (.invokestatic 97, 3) := by decide +kernel
theorem dL_law_1000 : decode cL_law 1000 = .ok (.iconst 1, 1) := by decide +kernel
theorem dL_law_1001 : decode cL_law 1001 = .ok (.if_icmp .ne 25, 3) := by decide +kernel
theorem dL_law_1004 : decode cL_law 1004 = .ok (.aload_n 1, 1) := by decide +kernel
theorem dL_law_1005 : decode cL_law 1005 = .ok (.iload 13, 2) := by decide +kernel
theorem dL_law_1007 : decode cL_law 1007 = .ok (.iload 14, 2) := by decide +kernel
theorem dL_law_1009 : decode cL_law 1009 = .ok (.invokevirtual 49, 3) := by decide +kernel
theorem dL_law_1012 : decode cL_law 1012 = .ok (.aload_n 2, 1) := by decide +kernel
theorem dL_law_1013 : decode cL_law 1013 = .ok (.aload 4, 2) := by decide +kernel
theorem dL_law_1015 : decode cL_law 1015 = .ok (.iconst 0, 1) := by decide +kernel
theorem dL_law_1016 : decode cL_law 1016 = .ok (.iload 15, 2) := by decide +kernel
theorem dL_law_1018 : decode cL_law 1018 = .ok (.iload 13, 2) := by decide +kernel
theorem dL_law_1020 : decode cL_law 1020 = .ok (.invokestatic 24, 3) := by decide +kernel
theorem dL_law_1023 : decode cL_law 1023 = .ok (.if_icmp .eq 5, 3) := by decide +kernel
theorem dL_law_1026 : decode cL_law 1026 = .ok (.iconst 0, 1) := by decide +kernel
theorem dL_law_1027 : decode cL_law 1027 = .ok (.ireturn, 1) := by decide +kernel
theorem dL_law_1028 : decode cL_law 1028 = .ok (.iconst 0, 1) := by decide +kernel
theorem dL_law_1029 : decode cL_law 1029 = .ok (.istore 13, 2) := by decide +kernel
theorem dL_law_1031 : decode cL_law 1031 = .ok (.iconst 0, 1) := by decide +kernel
theorem dL_law_1032 : decode cL_law 1032 = .ok (.istore 14, 2) := by decide +kernel
theorem dL_law_1034 : decode cL_law 1034 = .ok (.iload 14, 2) := by decide +kernel
theorem dL_law_1036 : decode cL_law 1036 = .ok (.aload 6, 2) := by decide +kernel
theorem dL_law_1038 : decode cL_law 1038 = .ok (.iconst 0, 1) := by decide +kernel
theorem dL_law_1039 : decode cL_law 1039 = .ok (.iaload, 1) := by decide +kernel
theorem dL_law_1040 : decode cL_law 1040 = .ok (.if_icmp .ge 18, 3) := by decide +kernel
theorem dL_law_1043 : decode cL_law 1043 = .ok (.iload 13, 2) := by decide +kernel
theorem dL_law_1045 : decode cL_law 1045 = .ok (.aload_n 3, 1) := by decide +kernel
theorem dL_law_1046 : decode cL_law 1046 = .ok (.iload 14, 2) := by decide +kernel
theorem dL_law_1048 : decode cL_law 1048 = .ok (.iaload, 1) := by decide +kernel
theorem dL_law_1049 : decode cL_law 1049 = .ok (.iadd, 1) := by decide +kernel
theorem dL_law_1050 : decode cL_law 1050 = .ok (.istore 13, 2) := by decide +kernel
theorem dL_law_1052 : decode cL_law 1052 = .ok (.iinc 14 1, 3) := by decide +kernel
theorem dL_law_1055 : decode cL_law 1055 = .ok (.goto (-21), 3) := by decide +kernel
theorem dL_law_1058 : decode cL_law 1058 = .ok (.aload_n 1, 1) := by decide +kernel
theorem dL_law_1059 : decode cL_law 1059 = .ok (.invokevirtual 152, 3) := by decide +kernel
theorem dL_law_1062 : decode cL_law 1062 = .ok (.aload 6, 2) := by decide +kernel
theorem dL_law_1064 : decode cL_law 1064 = .ok (.iconst 0, 1) := by decide +kernel
theorem dL_law_1065 : decode cL_law 1065 = .ok (.iaload, 1) := by decide +kernel
theorem dL_law_1066 : decode cL_law 1066 = .ok (.if_icmp .ne 57, 3) := by decide +kernel
theorem dL_law_1069 : decode cL_law 1069 = .ok (.aload_n 1, 1) := by decide +kernel
theorem dL_law_1070 : decode cL_law 1070 = .ok (.invokevirtual 155, 3) := by decide +kernel
theorem dL_law_1073 : decode cL_law 1073 = .ok (.aload 6, 2) := by decide +kernel
theorem dL_law_1075 : decode cL_law 1075 = .ok (.iconst 1, 1) := by decide +kernel
theorem dL_law_1076 : decode cL_law 1076 = .ok (.iaload, 1) := by decide +kernel
theorem dL_law_1077 : decode cL_law 1077 = .ok (.if_icmp .ne 46, 3) := by decide +kernel
theorem dL_law_1080 : decode cL_law 1080 = .ok (.aload_n 1, 1) := by decide +kernel
theorem dL_law_1081 : decode cL_law 1081 = .ok (.invokevirtual 158, 3) := by decide +kernel
theorem dL_law_1084 : decode cL_law 1084 = .ok (.iload 13, 2) := by decide +kernel
theorem dL_law_1086 : decode cL_law 1086 = .ok (.if_icmp .ne 37, 3) := by decide +kernel
theorem dL_law_1089 : decode cL_law 1089 = .ok (.aload_n 1, 1) := by decide +kernel
theorem dL_law_1090 : decode cL_law 1090 = .ok (.invokevirtual 161, 3) := by decide +kernel
theorem dL_law_1093 : decode cL_law 1093 = .ok (.aload 6, 2) := by decide +kernel
theorem dL_law_1095 : decode cL_law 1095 = .ok (.iconst 4, 1) := by decide +kernel
theorem dL_law_1096 : decode cL_law 1096 = .ok (.iaload, 1) := by decide +kernel
theorem dL_law_1097 : decode cL_law 1097 = .ok (.if_icmp .ne 26, 3) := by decide +kernel
theorem dL_law_1100 : decode cL_law 1100 = .ok (.aload_n 1, 1) := by decide +kernel
theorem dL_law_1101 : decode cL_law 1101 = .ok (.invokevirtual 164, 3) := by decide +kernel
theorem dL_law_1104 : decode cL_law 1104 = .ok (.aload 6, 2) := by decide +kernel
theorem dL_law_1106 : decode cL_law 1106 = .ok (.iconst 5, 1) := by decide +kernel
theorem dL_law_1107 : decode cL_law 1107 = .ok (.iaload, 1) := by decide +kernel
theorem dL_law_1108 : decode cL_law 1108 = .ok (.if_icmp .ne 15, 3) := by decide +kernel
theorem dL_law_1111 : decode cL_law 1111 = .ok (.aload_n 1, 1) := by decide +kernel
theorem dL_law_1112 : decode cL_law 1112 = .ok (.invokevirtual 167, 3) := by decide +kernel
theorem dL_law_1115 : decode cL_law 1115 = .ok (.aload 6, 2) := by decide +kernel
theorem dL_law_1117 : decode cL_law 1117 = .ok (.bipush 6, 2) := by decide +kernel
theorem dL_law_1119 : decode cL_law 1119 = .ok (.iaload, 1) := by decide +kernel
theorem dL_law_1120 : decode cL_law 1120 = .ok (.if_icmp .eq 5, 3) := by decide +kernel
theorem dL_law_1123 : decode cL_law 1123 = .ok (.iconst 0, 1) := by decide +kernel
theorem dL_law_1124 : decode cL_law 1124 = .ok (.ireturn, 1) := by decide +kernel
theorem dL_law_1125 : decode cL_law 1125 = .ok (.aload_n 1, 1) := by decide +kernel
theorem dL_law_1126 : decode cL_law 1126 = .ok (.aload_n 2, 1) := by decide +kernel
theorem dL_law_1127 : decode cL_law 1127 = .ok (.aload 4, 2) := by decide +kernel
theorem dL_law_1129 : decode cL_law 1129 = .ok (.aload 6, 2) := by decide +kernel
theorem dL_law_1131 : decode cL_law 1131 = .ok (.invokestatic 170, 3) := by decide +kernel
theorem dL_law_1134 : decode cL_law 1134 = .ok (.ifCond .eq 52, 3) := by decide +kernel
theorem dL_law_1137 : decode cL_law 1137 = .ok (.aload_n 1, 1) := by decide +kernel
theorem dL_law_1138 : decode cL_law 1138 = .ok (.iload 12, 2) := by decide +kernel
theorem dL_law_1140 : decode cL_law 1140 = .ok (.iload 11, 2) := by decide +kernel
theorem dL_law_1142 : decode cL_law 1142 = .ok (.aload_n 2, 1) := by decide +kernel
theorem dL_law_1143 : decode cL_law 1143 = .ok (.aload_n 3, 1) := by decide +kernel
theorem dL_law_1144 : decode cL_law 1144 = .ok (.aload 4, 2) := by decide +kernel
theorem dL_law_1146 : decode cL_law 1146 = .ok (.aload 5, 2) := by decide +kernel
theorem dL_law_1148 : decode cL_law 1148 = .ok (.aload 6, 2) := by decide +kernel
theorem dL_law_1150 : decode cL_law 1150 = .ok (.invokestatic 173, 3) := by decide +kernel
theorem dL_law_1153 : decode cL_law 1153 = .ok (.ifCond .eq 33, 3) := by decide +kernel
theorem dL_law_1156 : decode cL_law 1156 = .ok (.aload_n 1, 1) := by decide +kernel
theorem dL_law_1157 : decode cL_law 1157 = .ok (.iload 11, 2) := by decide +kernel
theorem dL_law_1159 : decode cL_law 1159 = .ok (.iload 8, 2) := by decide +kernel
theorem dL_law_1161 : decode cL_law 1161 = .ok (.iconst 3, 1) := by decide +kernel
theorem dL_law_1162 : decode cL_law 1162 = .ok (.ishr, 1) := by decide +kernel
theorem dL_law_1163 : decode cL_law 1163 = .ok (.sipush 200, 3) := by decide +kernel
theorem dL_law_1166 : decode cL_law 1166 = .ok (.invokestatic 138, 3) := by decide +kernel
theorem dL_law_1169 : decode cL_law 1169 = .ok (.isub, 1) := by decide +kernel
theorem dL_law_1170 : decode cL_law 1170 = .ok (.iload 12, 2) := by decide +kernel
theorem dL_law_1172 : decode cL_law 1172 = .ok (.aload_n 2, 1) := by decide +kernel
theorem dL_law_1173 : decode cL_law 1173 = .ok (.aload_n 3, 1) := by decide +kernel
theorem dL_law_1174 : decode cL_law 1174 = .ok (.aload 4, 2) := by decide +kernel
theorem dL_law_1176 : decode cL_law 1176 = .ok (.aload 5, 2) := by decide +kernel
theorem dL_law_1178 : decode cL_law 1178 = .ok (.aload 6, 2) := by decide +kernel
theorem dL_law_1180 : decode cL_law 1180 = .ok (.invokestatic 173, 3) := by decide +kernel
theorem dL_law_1183 : decode cL_law 1183 = .ok (.ifCond .ne 5, 3) := by decide +kernel
theorem dL_law_1186 : decode cL_law 1186 = .ok (.iconst 0, 1) := by decide +kernel
theorem dL_law_1187 : decode cL_law 1187 = .ok (.ireturn, 1) := by decide +kernel
theorem dL_law_1188 : decode cL_law 1188 = .ok (.iinc 7 1, 3) := by decide +kernel
theorem dL_law_1191 : decode cL_law 1191 = .ok (.goto (-1142), 3) := by decide +kernel
theorem dL_law_1194 : decode cL_law 1194 = .ok (.iconst 1, 1) := by decide +kernel
theorem dL_law_1195 : decode cL_law 1195 = .ok (.ireturn, 1) := by decide +kernel
abbrev vwCl : List vw_C := [(RX0, TX0, 2), (RX1, TX1, 7), (RX2, TX2, 15)]

theorem dL_act_204 : decode cL_act 204 = .ok (.iload_n 2, 1) := by decide +kernel
theorem dL_act_205 : decode cL_act 205 = .ok (.iconst 3, 1) := by decide +kernel
theorem dL_act_206 : decode cL_act 206 = .ok (.ishr, 1) := by decide +kernel
theorem dL_act_207 : decode cL_act 207 = .ok (.iload 8, 2) := by decide +kernel
theorem dL_act_209 : decode cL_act 209 = .ok (.ifCond .ne 9, 3) := by decide +kernel
theorem dL_act_212 : decode cL_act 212 = .ok (.sipush 201, 3) := by decide +kernel
theorem dL_act_215 : decode cL_act 215 = .ok (.goto 5, 3) := by decide +kernel
theorem dL_act_218 : decode cL_act 218 = .ok (.bipush 51, 2) := by decide +kernel
theorem dL_act_220 : decode cL_act 220 = .ok (.invokestatic 15, 3) := by decide +kernel
theorem dL_act_223 : decode cL_act 223 = .ok (.iastore, 1) := by decide +kernel
theorem dL_act_224 : decode cL_act 224 = .ok (.aload_n 0, 1) := by decide +kernel
theorem dL_act_225 : decode cL_act 225 = .ok (.iload 8, 2) := by decide +kernel
theorem dL_act_227 : decode cL_act 227 = .ok (.aload_n 1, 1) := by decide +kernel
theorem dL_act_228 : decode cL_act 228 = .ok (.getfield 30, 3) := by decide +kernel
theorem dL_act_231 : decode cL_act 231 = .ok (.iload 8, 2) := by decide +kernel
theorem dL_act_233 : decode cL_act 233 = .ok (.iaload, 1) := by decide +kernel
theorem dL_act_234 : decode cL_act 234 = .ok (.invokevirtual 33, 3) := by decide +kernel
theorem dL_act_237 : decode cL_act 237 = .ok (.iload 9, 2) := by decide +kernel
theorem dL_act_239 : decode cL_act 239 = .ok (.if_icmp .ne 7, 3) := by decide +kernel
theorem dL_act_242 : decode cL_act 242 = .ok (.iconst 1, 1) := by decide +kernel
theorem dL_act_243 : decode cL_act 243 = .ok (.goto 4, 3) := by decide +kernel
theorem dL_act_246 : decode cL_act 246 = .ok (.iconst 0, 1) := by decide +kernel
theorem dL_act_247 : decode cL_act 247 = .ok (.ireturn, 1) := by decide +kernel
theorem dL_act_248 : decode cL_act 248 = .ok (.iload_n 3, 1) := by decide +kernel
theorem dL_act_249 : decode cL_act 249 = .ok (.ifCond .eq 19, 3) := by decide +kernel
theorem dL_act_252 : decode cL_act 252 = .ok (.aload 5, 2) := by decide +kernel
theorem dL_act_254 : decode cL_act 254 = .ok (.getfield 36, 3) := by decide +kernel
theorem dL_act_257 : decode cL_act 257 = .ok (.ifCond .ne 11, 3) := by decide +kernel
theorem dL_act_260 : decode cL_act 260 = .ok (.iload_n 2, 1) := by decide +kernel
theorem dL_act_261 : decode cL_act 261 = .ok (.iconst 2, 1) := by decide +kernel
theorem dL_act_262 : decode cL_act 262 = .ok (.invokestatic 15, 3) := by decide +kernel
theorem dL_act_265 : decode cL_act 265 = .ok (.ifCond .ne 5, 3) := by decide +kernel
theorem dL_act_268 : decode cL_act 268 = .ok (.iconst 1, 1) := by decide +kernel
theorem dL_act_269 : decode cL_act 269 = .ok (.ireturn, 1) := by decide +kernel
theorem dL_act_270 : decode cL_act 270 = .ok (.aload_n 1, 1) := by decide +kernel
theorem dL_act_271 : decode cL_act 271 = .ok (.aload 5, 2) := by decide +kernel
theorem dL_act_273 : decode cL_act 273 = .ok (.invokevirtual 42, 3) := by decide +kernel
theorem dL_act_276 : decode cL_act 276 = .ok (.istore 10, 2) := by decide +kernel
theorem dL_act_278 : decode cL_act 278 = .ok (.aload 5, 2) := by decide +kernel
theorem dL_act_280 : decode cL_act 280 = .ok (.iconst 1, 1) := by decide +kernel
theorem dL_act_281 : decode cL_act 281 = .ok (.putfield 36, 3) := by decide +kernel
theorem dL_act_284 : decode cL_act 284 = .ok (.aload_n 0, 1) := by decide +kernel
theorem dL_act_285 : decode cL_act 285 = .ok (.iload 4, 2) := by decide +kernel
theorem dL_act_287 : decode cL_act 287 = .ok (.invokevirtual 46, 3) := by decide +kernel
theorem dL_act_290 : decode cL_act 290 = .ok (.iload 10, 2) := by decide +kernel
theorem dL_act_292 : decode cL_act 292 = .ok (.if_icmp .ne 7, 3) := by decide +kernel
theorem dL_act_295 : decode cL_act 295 = .ok (.iconst 1, 1) := by decide +kernel
theorem dL_act_296 : decode cL_act 296 = .ok (.goto 4, 3) := by decide +kernel
theorem dL_act_299 : decode cL_act 299 = .ok (.iconst 0, 1) := by decide +kernel
theorem dL_act_300 : decode cL_act 300 = .ok (.ireturn, 1) := by decide +kernel
theorem dL_act_301 : decode cL_act 301 = .ok (.iload_n 3, 1) := by decide +kernel
theorem dL_act_302 : decode cL_act 302 = .ok (.ifCond .eq 28, 3) := by decide +kernel
theorem dL_act_305 : decode cL_act 305 = .ok (.aload 5, 2) := by decide +kernel
theorem dL_act_307 : decode cL_act 307 = .ok (.getfield 36, 3) := by decide +kernel
theorem dL_act_310 : decode cL_act 310 = .ok (.ifCond .ne 20, 3) := by decide +kernel
theorem dL_act_313 : decode cL_act 313 = .ok (.aload 5, 2) := by decide +kernel
theorem dL_act_315 : decode cL_act 315 = .ok (.getfield 50, 3) := by decide +kernel
theorem dL_act_318 : decode cL_act 318 = .ok (.iconst 2, 1) := by decide +kernel
theorem dL_act_319 : decode cL_act 319 = .ok (.if_icmp .lt 11, 3) := by decide +kernel
theorem dL_act_322 : decode cL_act 322 = .ok (.iload_n 2, 1) := by decide +kernel
theorem dL_act_323 : decode cL_act 323 = .ok (.iconst 3, 1) := by decide +kernel
theorem dL_act_324 : decode cL_act 324 = .ok (.invokestatic 15, 3) := by decide +kernel
theorem dL_act_327 : decode cL_act 327 = .ok (.ifCond .le 5, 3) := by decide +kernel
theorem dL_act_330 : decode cL_act 330 = .ok (.iconst 1, 1) := by decide +kernel
theorem dL_act_331 : decode cL_act 331 = .ok (.ireturn, 1) := by decide +kernel
theorem dL_act_332 : decode cL_act 332 = .ok (.aload_n 1, 1) := by decide +kernel
theorem dL_act_333 : decode cL_act 333 = .ok (.aload 5, 2) := by decide +kernel
theorem dL_act_335 : decode cL_act 335 = .ok (.invokevirtual 53, 3) := by decide +kernel
theorem dL_act_338 : decode cL_act 338 = .ok (.istore 11, 2) := by decide +kernel
theorem dL_act_340 : decode cL_act 340 = .ok (.aload_n 1, 1) := by decide +kernel
theorem dL_act_341 : decode cL_act 341 = .ok (.dup, 1) := by decide +kernel
theorem dL_act_342 : decode cL_act 342 = .ok (.getfield 56, 3) := by decide +kernel
theorem dL_act_345 : decode cL_act 345 = .ok (.iload 11, 2) := by decide +kernel
theorem dL_act_347 : decode cL_act 347 = .ok (.isub, 1) := by decide +kernel
theorem dL_act_348 : decode cL_act 348 = .ok (.putfield 56, 3) := by decide +kernel
theorem dL_act_351 : decode cL_act 351 = .ok (.aload_n 1, 1) := by decide +kernel
theorem dL_act_352 : decode cL_act 352 = .ok (.dup, 1) := by decide +kernel
theorem dL_act_353 : decode cL_act 353 = .ok (.getfield 59, 3) := by decide +kernel
theorem dL_act_356 : decode cL_act 356 = .ok (.iload 11, 2) := by decide +kernel
theorem dL_act_358 : decode cL_act 358 = .ok (.iadd, 1) := by decide +kernel
theorem dL_act_359 : decode cL_act 359 = .ok (.putfield 59, 3) := by decide +kernel
theorem dL_act_362 : decode cL_act 362 = .ok (.aload 5, 2) := by decide +kernel
theorem dL_act_364 : decode cL_act 364 = .ok (.dup, 1) := by decide +kernel
theorem dL_act_365 : decode cL_act 365 = .ok (.getfield 62, 3) := by decide +kernel
theorem dL_act_368 : decode cL_act 368 = .ok (.iload 11, 2) := by decide +kernel
theorem dL_act_370 : decode cL_act 370 = .ok (.iadd, 1) := by decide +kernel
theorem dL_act_371 : decode cL_act 371 = .ok (.putfield 62, 3) := by decide +kernel
theorem dL_act_374 : decode cL_act 374 = .ok (.aload 5, 2) := by decide +kernel
theorem dL_act_376 : decode cL_act 376 = .ok (.iconst 2, 1) := by decide +kernel
theorem dL_act_377 : decode cL_act 377 = .ok (.putfield 36, 3) := by decide +kernel
theorem dL_act_380 : decode cL_act 380 = .ok (.aload_n 0, 1) := by decide +kernel
theorem dL_act_381 : decode cL_act 381 = .ok (.iload 4, 2) := by decide +kernel
theorem dL_act_383 : decode cL_act 383 = .ok (.invokevirtual 65, 3) := by decide +kernel
theorem dL_act_386 : decode cL_act 386 = .ok (.iload 11, 2) := by decide +kernel
theorem dL_act_388 : decode cL_act 388 = .ok (.if_icmp .ne 7, 3) := by decide +kernel
theorem dL_act_391 : decode cL_act 391 = .ok (.iconst 1, 1) := by decide +kernel
theorem dL_act_392 : decode cL_act 392 = .ok (.goto 4, 3) := by decide +kernel
theorem dL_act_395 : decode cL_act 395 = .ok (.iconst 0, 1) := by decide +kernel
theorem dL_act_396 : decode cL_act 396 = .ok (.ireturn, 1) := by decide +kernel
theorem dL_act_397 : decode cL_act 397 = .ok (.iload_n 2, 1) := by decide +kernel
theorem dL_act_398 : decode cL_act 398 = .ok (.iconst 2, 1) := by decide +kernel
theorem dL_act_399 : decode cL_act 399 = .ok (.ishr, 1) := by decide +kernel
theorem dL_act_400 : decode cL_act 400 = .ok (.iload_n 2, 1) := by decide +kernel
theorem dL_act_401 : decode cL_act 401 = .ok (.iconst 4, 1) := by decide +kernel
theorem dL_act_402 : decode cL_act 402 = .ok (.invokestatic 15, 3) := by decide +kernel
theorem dL_act_405 : decode cL_act 405 = .ok (.ifCond .ne 8, 3) := by decide +kernel
theorem dL_act_408 : decode cL_act 408 = .ok (.ldc 68, 2) := by decide +kernel
theorem dL_act_410 : decode cL_act 410 = .ok (.goto 6, 3) := by decide +kernel
theorem dL_act_413 : decode cL_act 413 = .ok (.sipush 9001, 3) := by decide +kernel
theorem dL_act_416 : decode cL_act 416 = .ok (.invokestatic 15, 3) := by decide +kernel
theorem dL_act_419 : decode cL_act 419 = .ok (.iload_n 2, 1) := by decide +kernel
theorem dL_act_420 : decode cL_act 420 = .ok (.iconst 4, 1) := by decide +kernel
theorem dL_act_421 : decode cL_act 421 = .ok (.invokestatic 15, 3) := by decide +kernel
theorem dL_act_424 : decode cL_act 424 = .ok (.ifCond .ne 8, 3) := by decide +kernel
theorem dL_act_427 : decode cL_act 427 = .ok (.ldc 69, 2) := by decide +kernel
theorem dL_act_429 : decode cL_act 429 = .ok (.goto 6, 3) := by decide +kernel
theorem dL_act_432 : decode cL_act 432 = .ok (.sipush 3000, 3) := by decide +kernel
theorem dL_act_435 : decode cL_act 435 = .ok (.isub, 1) := by decide +kernel
theorem dL_act_436 : decode cL_act 436 = .ok (.istore 12, 2) := by decide +kernel
theorem dL_act_438 : decode cL_act 438 = .ok (.aload_n 1, 1) := by decide +kernel
theorem dL_act_439 : decode cL_act 439 = .ok (.iload 12, 2) := by decide +kernel
theorem dL_act_441 : decode cL_act 441 = .ok (.i2l, 1) := by decide +kernel
theorem dL_act_442 : decode cL_act 442 = .ok (.invokevirtual 70, 3) := by decide +kernel
theorem dL_act_445 : decode cL_act 445 = .ok (.aload_n 0, 1) := by decide +kernel
theorem dL_act_446 : decode cL_act 446 = .ok (.iload 12, 2) := by decide +kernel
theorem dL_act_448 : decode cL_act 448 = .ok (.invokevirtual 74, 3) := by decide +kernel
theorem dL_act_451 : decode cL_act 451 = .ok (.aload_n 1, 1) := by decide +kernel
theorem dL_act_452 : decode cL_act 452 = .ok (.getfield 56, 3) := by decide +kernel
theorem dL_act_455 : decode cL_act 455 = .ok (.if_icmp .ne 7, 3) := by decide +kernel
theorem dL_act_458 : decode cL_act 458 = .ok (.iconst 1, 1) := by decide +kernel
theorem dL_act_459 : decode cL_act 459 = .ok (.goto 4, 3) := by decide +kernel
theorem dL_act_462 : decode cL_act 462 = .ok (.iconst 0, 1) := by decide +kernel
theorem dL_act_463 : decode cL_act 463 = .ok (.ireturn, 1) := by decide +kernel
theorem dL_act_464 : decode cL_act 464 = .ok (.iconst 1, 1) := by decide +kernel
theorem dL_act_465 : decode cL_act 465 = .ok (.iload_n 2, 1) := by decide +kernel
theorem dL_act_466 : decode cL_act 466 = .ok (.iconst 2, 1) := by decide +kernel
theorem dL_act_467 : decode cL_act 467 = .ok (.ishr, 1) := by decide +kernel
theorem dL_act_468 : decode cL_act 468 = .ok (.iload_n 2, 1) := by decide +kernel
theorem dL_act_469 : decode cL_act 469 = .ok (.iconst 5, 1) := by decide +kernel
theorem dL_act_470 : decode cL_act 470 = .ok (.invokestatic 15, 3) := by decide +kernel
theorem dL_act_473 : decode cL_act 473 = .ok (.ifCond .ne 8, 3) := by decide +kernel
theorem dL_act_476 : decode cL_act 476 = .ok (.bipush 12, 2) := by decide +kernel
theorem dL_act_478 : decode cL_act 478 = .ok (.goto 4, 3) := by decide +kernel
theorem dL_act_481 : decode cL_act 481 = .ok (.iconst 3, 1) := by decide +kernel
theorem dL_act_482 : decode cL_act 482 = .ok (.invokestatic 15, 3) := by decide +kernel
theorem dL_act_485 : decode cL_act 485 = .ok (.iadd, 1) := by decide +kernel
theorem dL_act_486 : decode cL_act 486 = .ok (.istore 13, 2) := by decide +kernel
theorem dL_act_488 : decode cL_act 488 = .ok (.iconst 0, 1) := by decide +kernel
theorem dL_act_489 : decode cL_act 489 = .ok (.istore 14, 2) := by decide +kernel
theorem dL_act_491 : decode cL_act 491 = .ok (.iconst 0, 1) := by decide +kernel
theorem dL_act_492 : decode cL_act 492 = .ok (.istore 15, 2) := by decide +kernel
theorem dL_act_494 : decode cL_act 494 = .ok (.iload 15, 2) := by decide +kernel
theorem dL_act_496 : decode cL_act 496 = .ok (.iload 13, 2) := by decide +kernel
theorem dL_act_498 : decode cL_act 498 = .ok (.if_icmp .ge 18, 3) := by decide +kernel
theorem dL_act_501 : decode cL_act 501 = .ok (.iload 14, 2) := by decide +kernel
theorem dL_act_503 : decode cL_act 503 = .ok (.aload_n 1, 1) := by decide +kernel
theorem dL_act_504 : decode cL_act 504 = .ok (.invokevirtual 77, 3) := by decide +kernel
theorem dL_act_507 : decode cL_act 507 = .ok (.iadd, 1) := by decide +kernel
theorem dL_act_508 : decode cL_act 508 = .ok (.istore 14, 2) := by decide +kernel
theorem dL_act_510 : decode cL_act 510 = .ok (.iinc 15 1, 3) := by decide +kernel
theorem dL_act_513 : decode cL_act 513 = .ok (.goto (-19), 3) := by decide +kernel
theorem dL_act_516 : decode cL_act 516 = .ok (.aload_n 0, 1) := by decide +kernel
theorem dL_act_517 : decode cL_act 517 = .ok (.iload 13, 2) := by decide +kernel
theorem dL_act_519 : decode cL_act 519 = .ok (.invokevirtual 81, 3) := by decide +kernel
theorem dL_act_522 : decode cL_act 522 = .ok (.iload 14, 2) := by decide +kernel
theorem dL_act_524 : decode cL_act 524 = .ok (.if_icmp .ne 7, 3) := by decide +kernel
theorem dL_act_527 : decode cL_act 527 = .ok (.iconst 1, 1) := by decide +kernel
theorem dL_act_528 : decode cL_act 528 = .ok (.goto 4, 3) := by decide +kernel
theorem dL_act_531 : decode cL_act 531 = .ok (.iconst 0, 1) := by decide +kernel
theorem dL_act_532 : decode cL_act 532 = .ok (.ireturn, 1) := by decide +kernel
theorem dL_act_533 : decode cL_act 533 = .ok (.bipush 50, 2) := by decide +kernel
theorem dL_act_535 : decode cL_act 535 = .ok (.iload_n 2, 1) := by decide +kernel
theorem dL_act_536 : decode cL_act 536 = .ok (.iconst 1, 1) := by decide +kernel
theorem dL_act_537 : decode cL_act 537 = .ok (.ishr, 1) := by decide +kernel
theorem dL_act_538 : decode cL_act 538 = .ok (.bipush 50, 2) := by decide +kernel
theorem dL_act_540 : decode cL_act 540 = .ok (.invokestatic 15, 3) := by decide +kernel
theorem dL_act_543 : decode cL_act 543 = .ok (.iadd, 1) := by decide +kernel
theorem dL_act_544 : decode cL_act 544 = .ok (.istore 15, 2) := by decide +kernel
theorem dL_act_546 : decode cL_act 546 = .ok (.iload_n 2, 1) := by decide +kernel
theorem dL_act_547 : decode cL_act 547 = .ok (.iconst 2, 1) := by decide +kernel
theorem dL_act_548 : decode cL_act 548 = .ok (.ishr, 1) := by decide +kernel
theorem dL_act_549 : decode cL_act 549 = .ok (.iconst 2, 1) := by decide +kernel
theorem dL_act_550 : decode cL_act 550 = .ok (.invokestatic 15, 3) := by decide +kernel
theorem dL_act_553 : decode cL_act 553 = .ok (.ifCond .ne 7, 3) := by decide +kernel
theorem dL_act_556 : decode cL_act 556 = .ok (.iconst 0, 1) := by decide +kernel
theorem dL_act_557 : decode cL_act 557 = .ok (.goto 11, 3) := by decide +kernel
theorem dL_act_560 : decode cL_act 560 = .ok (.iload_n 2, 1) := by decide +kernel
theorem dL_act_561 : decode cL_act 561 = .ok (.iconst 4, 1) := by decide +kernel
theorem dL_act_562 : decode cL_act 562 = .ok (.ishr, 1) := by decide +kernel
theorem dL_act_563 : decode cL_act 563 = .ok (.bipush 31, 2) := by decide +kernel
theorem dL_act_565 : decode cL_act 565 = .ok (.invokestatic 15, 3) := by decide +kernel
theorem dL_act_568 : decode cL_act 568 = .ok (.istore 16, 2) := by decide +kernel
theorem dL_act_570 : decode cL_act 570 = .ok (.iload_n 3, 1) := by decide +kernel
theorem dL_act_571 : decode cL_act 571 = .ok (.bipush 10, 2) := by decide +kernel
theorem dL_act_573 : decode cL_act 573 = .ok (.if_icmp .eq 14, 3) := by decide +kernel
theorem dL_act_576 : decode cL_act 576 = .ok (.aload_n 1, 1) := by decide +kernel
theorem dL_act_577 : decode cL_act 577 = .ok (.iload 15, 2) := by decide +kernel
theorem dL_act_579 : decode cL_act 579 = .ok (.iload 16, 2) := by decide +kernel
theorem dL_act_581 : decode cL_act 581 = .ok (.invokevirtual 83, 3) := by decide +kernel
theorem dL_act_584 : decode cL_act 584 = .ok (.ifCond .ne 5, 3) := by decide +kernel
theorem dL_act_587 : decode cL_act 587 = .ok (.iconst 1, 1) := by decide +kernel
theorem dL_act_588 : decode cL_act 588 = .ok (.ireturn, 1) := by decide +kernel
theorem dL_act_589 : decode cL_act 589 = .ok (.iload_n 3, 1) := by decide +kernel
theorem dL_act_590 : decode cL_act 590 = .ok (.iconst 1, 1) := by decide +kernel
theorem dL_act_591 : decode cL_act 591 = .ok (.iadd, 1) := by decide +kernel
theorem dL_act_592 : decode cL_act 592 = .ok (.anewarray 37, 3) := by decide +kernel
theorem dL_act_595 : decode cL_act 595 = .ok (.astore 17, 2) := by decide +kernel
theorem dL_act_597 : decode cL_act 597 = .ok (.iconst 0, 1) := by decide +kernel
theorem dL_act_598 : decode cL_act 598 = .ok (.istore 18, 2) := by decide +kernel
theorem dL_act_600 : decode cL_act 600 = .ok (.iload 18, 2) := by decide +kernel
theorem dL_act_602 : decode cL_act 602 = .ok (.iload_n 3, 1) := by decide +kernel
theorem dL_act_603 : decode cL_act 603 = .ok (.if_icmp .ge 21, 3) := by decide +kernel
theorem dL_act_606 : decode cL_act 606 = .ok (.aload 17, 2) := by decide +kernel
theorem dL_act_608 : decode cL_act 608 = .ok (.iload 18, 2) := by decide +kernel
theorem dL_act_610 : decode cL_act 610 = .ok (.aload_n 1, 1) := by decide +kernel
theorem dL_act_611 : decode cL_act 611 = .ok (.getfield 9, 3) := by decide +kernel
theorem dL_act_614 : decode cL_act 614 = .ok (.iload 18, 2) := by decide +kernel
theorem dL_act_616 : decode cL_act 616 = .ok (.aaload, 1) := by decide +kernel
theorem dL_act_617 : decode cL_act 617 = .ok (.aastore, 1) := by decide +kernel
theorem dL_act_618 : decode cL_act 618 = .ok (.iinc 18 1, 3) := by decide +kernel
theorem dL_act_621 : decode cL_act 621 = .ok (.goto (-21), 3) := by decide +kernel
theorem dL_act_624 : decode cL_act 624 = .ok (.aload 17, 2) := by decide +kernel
theorem dL_act_626 : decode cL_act 626 = .ok (.iload_n 3, 1) := by decide +kernel
theorem dL_act_627 : decode cL_act 627 = .ok (.new 37, 3) := by decide +kernel
theorem dL_act_630 : decode cL_act 630 = .ok (.dup, 1) := by decide +kernel
theorem dL_act_631 : decode cL_act 631 = .ok (.invokespecial 86, 3) := by decide +kernel
theorem dL_act_634 : decode cL_act 634 = .ok (.aastore, 1) := by decide +kernel
theorem dL_act_635 : decode cL_act 635 = .ok (.aload 17, 2) := by decide +kernel
theorem dL_act_637 : decode cL_act 637 = .ok (.iload_n 3, 1) := by decide +kernel
theorem dL_act_638 : decode cL_act 638 = .ok (.aaload, 1) := by decide +kernel
theorem dL_act_639 : decode cL_act 639 = .ok (.iload 15, 2) := by decide +kernel
theorem dL_act_641 : decode cL_act 641 = .ok (.putfield 87, 3) := by decide +kernel
theorem dL_act_644 : decode cL_act 644 = .ok (.aload 17, 2) := by decide +kernel
theorem dL_act_646 : decode cL_act 646 = .ok (.iload_n 3, 1) := by decide +kernel
theorem dL_act_647 : decode cL_act 647 = .ok (.aaload, 1) := by decide +kernel
theorem dL_act_648 : decode cL_act 648 = .ok (.iconst 1, 1) := by decide +kernel
theorem dL_act_649 : decode cL_act 649 = .ok (.iload_n 2, 1) := by decide +kernel
theorem dL_act_650 : decode cL_act 650 = .ok (.iconst 3, 1) := by decide +kernel
theorem dL_act_651 : decode cL_act 651 = .ok (.ishr, 1) := by decide +kernel
theorem dL_act_652 : decode cL_act 652 = .ok (.iload_n 2, 1) := by decide +kernel
theorem dL_act_653 : decode cL_act 653 = .ok (.iconst 2, 1) := by decide +kernel
theorem dL_act_654 : decode cL_act 654 = .ok (.invokestatic 15, 3) := by decide +kernel
theorem dL_act_657 : decode cL_act 657 = .ok (.ifCond .ne 9, 3) := by decide +kernel
theorem dL_act_660 : decode cL_act 660 = .ok (.sipush 999, 3) := by decide +kernel
theorem dL_act_663 : decode cL_act 663 = .ok (.goto 5, 3) := by decide +kernel
theorem dL_act_666 : decode cL_act 666 = .ok (.bipush 60, 2) := by decide +kernel
theorem dL_act_668 : decode cL_act 668 = .ok (.invokestatic 15, 3) := by decide +kernel
theorem dL_act_671 : decode cL_act 671 = .ok (.iadd, 1) := by decide +kernel
theorem dL_act_672 : decode cL_act 672 = .ok (.putfield 90, 3) := by decide +kernel
theorem dL_act_675 : decode cL_act 675 = .ok (.aload 17, 2) := by decide +kernel
theorem dL_act_677 : decode cL_act 677 = .ok (.iload_n 3, 1) := by decide +kernel
theorem dL_act_678 : decode cL_act 678 = .ok (.aaload, 1) := by decide +kernel
theorem dL_act_679 : decode cL_act 679 = .ok (.iload 16, 2) := by decide +kernel
theorem dL_act_681 : decode cL_act 681 = .ok (.putfield 93, 3) := by decide +kernel
theorem dL_act_684 : decode cL_act 684 = .ok (.aload 17, 2) := by decide +kernel
theorem dL_act_686 : decode cL_act 686 = .ok (.iload_n 3, 1) := by decide +kernel
theorem dL_act_687 : decode cL_act 687 = .ok (.aaload, 1) := by decide +kernel
theorem dL_act_688 : decode cL_act 688 = .ok (.aload_n 1, 1) := by decide +kernel
theorem dL_act_689 : decode cL_act 689 = .ok (.iload 15, 2) := by decide +kernel
theorem dL_act_691 : decode cL_act 691 = .ok (.aload 17, 2) := by decide +kernel
theorem dL_act_693 : decode cL_act 693 = .ok (.iload_n 3, 1) := by decide +kernel
theorem dL_act_694 : decode cL_act 694 = .ok (.aaload, 1) := by decide +kernel
theorem dL_act_695 : decode cL_act 695 = .ok (.getfield 90, 3) := by decide +kernel
theorem dL_act_698 : decode cL_act 698 = .ok (.iload 16, 2) := by decide +kernel
theorem dL_act_700 : decode cL_act 700 = .ok (.invokevirtual 96, 3) := by decide +kernel
theorem dL_act_703 : decode cL_act 703 = .ok (.putfield 100, 3) := by decide +kernel
theorem dL_act_706 : decode cL_act 706 = .ok (.aload_n 1, 1) := by decide +kernel
theorem dL_act_707 : decode cL_act 707 = .ok (.aload 17, 2) := by decide +kernel
theorem dL_act_709 : decode cL_act 709 = .ok (.putfield 9, 3) := by decide +kernel
theorem dL_act_712 : decode cL_act 712 = .ok (.aload_n 1, 1) := by decide +kernel
theorem dL_act_713 : decode cL_act 713 = .ok (.aload 17, 2) := by decide +kernel
theorem dL_act_715 : decode cL_act 715 = .ok (.iload_n 3, 1) := by decide +kernel
theorem dL_act_716 : decode cL_act 716 = .ok (.aaload, 1) := by decide +kernel
theorem dL_act_717 : decode cL_act 717 = .ok (.getfield 100, 3) := by decide +kernel
theorem dL_act_720 : decode cL_act 720 = .ok (.i2l, 1) := by decide +kernel
theorem dL_act_721 : decode cL_act 721 = .ok (.invokevirtual 70, 3) := by decide +kernel
theorem dL_act_724 : decode cL_act 724 = .ok (.aload_n 0, 1) := by decide +kernel
theorem dL_act_725 : decode cL_act 725 = .ok (.iload 15, 2) := by decide +kernel
theorem dL_act_727 : decode cL_act 727 = .ok (.aload 17, 2) := by decide +kernel
theorem dL_act_729 : decode cL_act 729 = .ok (.iload_n 3, 1) := by decide +kernel
theorem dL_act_730 : decode cL_act 730 = .ok (.aaload, 1) := by decide +kernel
theorem dL_act_731 : decode cL_act 731 = .ok (.getfield 90, 3) := by decide +kernel
theorem dL_act_734 : decode cL_act 734 = .ok (.iload 16, 2) := by decide +kernel
theorem dL_act_736 : decode cL_act 736 = .ok (.invokevirtual 102, 3) := by decide +kernel
theorem dL_act_739 : decode cL_act 739 = .ok (.iload_n 3, 1) := by decide +kernel
theorem dL_act_740 : decode cL_act 740 = .ok (.if_icmp .ne 7, 3) := by decide +kernel
theorem dL_act_743 : decode cL_act 743 = .ok (.iconst 1, 1) := by decide +kernel
theorem dL_act_744 : decode cL_act 744 = .ok (.goto 4, 3) := by decide +kernel
theorem dL_act_747 : decode cL_act 747 = .ok (.iconst 0, 1) := by decide +kernel
theorem dL_act_748 : decode cL_act 748 = .ok (.ireturn, 1) := by decide +kernel
set_option maxRecDepth 20000 in
theorem ggL_build_X4_init : GoodIn wsL_build wsX4_init := goodIn_r _ [6, 7, 8, 9, 10, 11, 12, 13, 14, 267, 268, 269, 270, 271, 272] (by decide +kernel) (by decide +kernel)
set_option maxRecDepth 20000 in
theorem gL_build_X4_init : GoodIn wsL_build (wsX4_init) := ggL_build_X4_init
set_option maxRecDepth 20000 in
theorem ggL_build_L_cell : GoodIn wsL_build wsL_cell := goodIn_r _ [18, 19] (by decide +kernel) (by decide +kernel)
set_option maxRecDepth 20000 in
theorem gL_build_L_cell : GoodIn wsL_build (va_wsS RL 106 yL_cell wsL_cell) := goodIn_app (goodIn_of _ (by decide +kernel)) ggL_build_L_cell
set_option maxRecDepth 20000 in
theorem ggL_build_L_below : GoodIn wsL_build wsL_below := goodIn_r _ [22, 23] (by decide +kernel) (by decide +kernel)
set_option maxRecDepth 20000 in
theorem gL_build_L_below : GoodIn wsL_build (va_wsS RL 15 yL_below wsL_below) := goodIn_app (goodIn_of _ (by decide +kernel)) ggL_build_L_below
set_option maxRecDepth 100000 in
theorem hggL_build_L_act_r1 : GoodIn wsL_build (.code yL_act cL_act 19 (some .boolean) :: wsL_act_r1) := goodIn_r (big := wsL_build) (.code yL_act cL_act 19 (some .boolean) :: wsL_act_r1) [26, 27, 28, 29, 30, 31, 32, 33, 34, 35, 36, 37, 38, 39, 40, 41, 42, 43, 20, 21, 17, 22, 23, 44, 45] rfl (by decide +kernel)
set_option maxRecDepth 100000 in
theorem hggL_build_L_act_r2 : GoodIn wsL_build wsL_act_r2 := goodIn_r (big := wsL_build) wsL_act_r2 [46, 47, 48, 49, 50, 51, 52, 53, 54, 55, 56, 57, 58, 59, 60, 61, 62, 63, 64, 65, 66, 67, 68, 69] rfl (by decide +kernel)
set_option maxRecDepth 100000 in
theorem hggL_build_L_act_r3 : GoodIn wsL_build wsL_act_r3 := goodIn_r (big := wsL_build) wsL_act_r3 [70, 71, 72, 73, 74, 75, 76, 77, 78, 79, 80, 81, 82, 3, 83, 84, 85, 86, 87, 88, 89, 90, 91, 12] rfl (by decide +kernel)
set_option maxRecDepth 100000 in
theorem hggL_build_L_act_r4 : GoodIn wsL_build wsL_act_r4 := goodIn_r (big := wsL_build) wsL_act_r4 [11, 92, 93, 94, 95, 96, 97, 98, 99, 100, 101, 102, 103, 104, 105, 106, 107, 108, 109, 110, 111, 112, 113, 114] rfl (by decide +kernel)
set_option maxRecDepth 100000 in
theorem hggL_build_L_act_r5 : GoodIn wsL_build wsL_act_r5 := goodIn_r (big := wsL_build) wsL_act_r5 [115, 116, 117, 118, 119, 120, 121, 122, 123, 124, 125, 126, 127, 128, 129, 130, 131, 132, 133, 134, 135, 136, 137, 138] rfl (by decide +kernel)
set_option maxRecDepth 100000 in
theorem hggL_build_L_act_r6 : GoodIn wsL_build wsL_act_r6 := goodIn_r (big := wsL_build) wsL_act_r6 [139, 140, 141, 142, 143, 144, 145, 146, 147, 148, 149, 150, 151, 152, 153, 154, 155, 156, 157, 158, 159, 160, 161, 162] rfl (by decide +kernel)
set_option maxRecDepth 100000 in
theorem hggL_build_L_act_r7 : GoodIn wsL_build wsL_act_r7 := goodIn_r (big := wsL_build) wsL_act_r7 [163, 164, 165, 166, 167, 168, 169, 170, 171, 172, 173, 174, 175, 176, 177, 178, 179, 180, 181, 182, 183, 184, 185, 186] rfl (by decide +kernel)
set_option maxRecDepth 100000 in
theorem hggL_build_L_act_r8 : GoodIn wsL_build wsL_act_r8 := goodIn_r (big := wsL_build) wsL_act_r8 [14, 187, 188, 189, 190, 191, 192, 193, 194, 195, 196, 197, 198, 199, 200, 201, 202, 203, 204, 205, 206, 207, 208, 209] rfl (by decide +kernel)
set_option maxRecDepth 100000 in
theorem hggL_build_L_act_r9 : GoodIn wsL_build wsL_act_r9 := goodIn_r (big := wsL_build) wsL_act_r9 [210, 211, 212, 213, 214, 215, 216, 217, 218, 219, 220, 221, 222, 223, 224, 225, 226, 227, 8, 9, 228, 229, 230, 231] rfl (by decide +kernel)
set_option maxRecDepth 100000 in
theorem hggL_build_L_act_r10 : GoodIn wsL_build wsL_act_r10 := goodIn_r (big := wsL_build) wsL_act_r10 [232, 233, 234, 235, 236, 237, 238, 239, 240, 241, 242, 243, 244, 245, 246, 247, 248, 249, 250, 251, 252, 253, 254, 255] rfl (by decide +kernel)
set_option maxRecDepth 100000 in
theorem hggL_build_L_act_r11 : GoodIn wsL_build wsL_act_r11 := goodIn_r (big := wsL_build) wsL_act_r11 [256, 257, 258, 259, 260, 261, 262, 263, 264, 265, 266] rfl (by decide +kernel)
theorem hggL_build_L_act_wsX40 : GoodIn wsL_build wsX40 := goodIn_sub (fun _ h => List.mem_cons_of_mem _ (List.mem_append_left _ (List.mem_append_left _ (List.mem_append_left _ (List.mem_append_left _ (List.mem_append_left _ (List.mem_append_left _ (List.mem_append_left _ (List.mem_append_left _ (List.mem_append_right _ h)))))))))) (by decide +kernel)
theorem hggL_build_L_act_wsX50 : GoodIn wsL_build wsX50 := goodIn_sub (fun _ h => List.mem_cons_of_mem _ (List.mem_append_left _ (List.mem_append_left _ (List.mem_append_left _ (List.mem_append_left _ (List.mem_append_left _ (List.mem_append_left _ (List.mem_append_left _ (List.mem_append_right _ h))))))))) (by decide +kernel)
theorem hggL_build_L_act_wsX30 : GoodIn wsL_build wsX30 := goodIn_sub (fun _ h => List.mem_cons_of_mem _ (List.mem_append_left _ (List.mem_append_left _ (List.mem_append_left _ (List.mem_append_left _ (List.mem_append_left _ (List.mem_append_left _ (List.mem_append_right _ h)))))))) (by decide +kernel)
theorem hggL_build_L_act_wsX10 : GoodIn wsL_build wsX10 := goodIn_sub (fun _ h => List.mem_cons_of_mem _ (List.mem_append_left _ (List.mem_append_left _ (List.mem_append_left _ (List.mem_append_left _ (List.mem_append_left _ (List.mem_append_right _ h))))))) (by decide +kernel)
theorem hggL_build_L_act_wsX20 : GoodIn wsL_build wsX20 := goodIn_sub (fun _ h => List.mem_cons_of_mem _ (List.mem_append_left _ (List.mem_append_left _ (List.mem_append_left _ (List.mem_append_left _ (List.mem_append_right _ h)))))) (by decide +kernel)
theorem hggL_build_L_act_wsX00 : GoodIn wsL_build wsX00 := goodIn_sub (fun _ h => List.mem_cons_of_mem _ (List.mem_append_left _ (List.mem_append_left _ (List.mem_append_left _ (List.mem_append_right _ h))))) (by decide +kernel)
set_option maxRecDepth 100000 in
theorem ggL_build_L_act : GoodIn wsL_build wsL_act := goodIn_ca (goodIn_ca (goodIn_ca (goodIn_ca (goodIn_ca (goodIn_ca (goodIn_ca (goodIn_ca (goodIn_ca (goodIn_ca hggL_build_L_act_r1 (goodIn_app hggL_build_L_act_r2 (goodIn_app hggL_build_L_act_r3 (goodIn_app hggL_build_L_act_r4 (goodIn_app hggL_build_L_act_r5 (goodIn_app hggL_build_L_act_r6 (goodIn_app hggL_build_L_act_r7 (goodIn_app hggL_build_L_act_r8 (goodIn_app hggL_build_L_act_r9 (goodIn_app hggL_build_L_act_r10 hggL_build_L_act_r11)))))))))) hggL_build_L_act_wsX40) hggL_build_L_act_wsX50) hggL_build_L_act_wsX30) hggL_build_L_act_wsX10) hggL_build_L_act_wsX20) hggL_build_L_act_wsX00) (goodIn_sub (fun _ h => List.mem_cons_of_mem _ (List.mem_append_left _ (List.mem_append_left _ (List.mem_append_right _ h)))) (by decide +kernel))) (goodIn_sub (fun _ h => List.mem_cons_of_mem _ (List.mem_append_left _ (List.mem_append_right _ h))) (by decide +kernel))) (goodIn_sub (fun _ h => List.mem_cons_of_mem _ (List.mem_append_right _ h)) (by decide +kernel))
set_option maxRecDepth 20000 in
theorem gL_build_L_act : GoodIn wsL_build (va_wsS RL 110 yL_act wsL_act) := goodIn_app (goodIn_of _ (by decide +kernel)) ggL_build_L_act
theorem dL_build_0 : decode cL_build 0 = .ok (.new 10, 3) := by decide +kernel
theorem dL_build_3 : decode cL_build 3 = .ok (.dup, 1) := by decide +kernel
theorem dL_build_4 : decode cL_build 4 = .ok (.invokespecial 105, 3) := by decide +kernel
theorem dL_build_7 : decode cL_build 7 = .ok (.astore_n 2, 1) := by decide +kernel
theorem dL_build_8 : decode cL_build 8 = .ok (.bipush 10, 2) := by decide +kernel
theorem dL_build_10 : decode cL_build 10 = .ok (.aload_n 1, 1) := by decide +kernel
theorem dL_build_11 : decode cL_build 11 = .ok (.iconst 0, 1) := by decide +kernel
theorem dL_build_12 : decode cL_build 12 = .ok (.invokestatic 106, 3) := by decide +kernel
theorem dL_build_15 : decode cL_build 15 = .ok (.bipush 40, 2) := by decide +kernel
theorem dL_build_17 : decode cL_build 17 = .ok (.invokestatic 15, 3) := by decide +kernel
theorem dL_build_20 : decode cL_build 20 = .ok (.iadd, 1) := by decide +kernel
theorem dL_build_21 : decode cL_build 21 = .ok (.istore_n 3, 1) := by decide +kernel
theorem dL_build_22 : decode cL_build 22 = .ok (.iconst 0, 1) := by decide +kernel
theorem dL_build_23 : decode cL_build 23 = .ok (.istore 4, 2) := by decide +kernel
theorem dL_build_25 : decode cL_build 25 = .ok (.iload 4, 2) := by decide +kernel
theorem dL_build_27 : decode cL_build 27 = .ok (.iload_n 3, 1) := by decide +kernel
theorem dL_build_28 : decode cL_build 28 = .ok (.if_icmp .ge 43, 3) := by decide +kernel
theorem dL_build_31 : decode cL_build 31 = .ok (.aload_n 0, 1) := by decide +kernel
theorem dL_build_32 : decode cL_build 32 = .ok (.aload_n 2, 1) := by decide +kernel
theorem dL_build_33 : decode cL_build 33 = .ok (.aload_n 1, 1) := by decide +kernel
theorem dL_build_34 : decode cL_build 34 = .ok (.iload 4, 2) := by decide +kernel
theorem dL_build_36 : decode cL_build 36 = .ok (.bipush 16, 2) := by decide +kernel
theorem dL_build_38 : decode cL_build 38 = .ok (.irem, 1) := by decide +kernel
theorem dL_build_39 : decode cL_build 39 = .ok (.invokestatic 106, 3) := by decide +kernel
theorem dL_build_42 : decode cL_build 42 = .ok (.iload 4, 2) := by decide +kernel
theorem dL_build_44 : decode cL_build 44 = .ok (.bipush 16, 2) := by decide +kernel
theorem dL_build_46 : decode cL_build 46 = .ok (.idiv, 1) := by decide +kernel
theorem dL_build_47 : decode cL_build 47 = .ok (.iconst 3, 1) := by decide +kernel
theorem dL_build_48 : decode cL_build 48 = .ok (.imul, 1) := by decide +kernel
theorem dL_build_49 : decode cL_build 49 = .ok (.ishr, 1) := by decide +kernel
theorem dL_build_50 : decode cL_build 50 = .ok (.sipush 409, 3) := by decide +kernel
theorem dL_build_53 : decode cL_build 53 = .ok (.iload 4, 2) := by decide +kernel
theorem dL_build_55 : decode cL_build 55 = .ok (.imul, 1) := by decide +kernel
theorem dL_build_56 : decode cL_build 56 = .ok (.iadd, 1) := by decide +kernel
theorem dL_build_57 : decode cL_build 57 = .ok (.invokestatic 110, 3) := by decide +kernel
theorem dL_build_60 : decode cL_build 60 = .ok (.ifCond .ne 5, 3) := by decide +kernel
theorem dL_build_63 : decode cL_build 63 = .ok (.aconst_null, 1) := by decide +kernel
theorem dL_build_64 : decode cL_build 64 = .ok (.areturn, 1) := by decide +kernel
theorem dL_build_65 : decode cL_build 65 = .ok (.iinc 4 1, 3) := by decide +kernel
theorem dL_build_68 : decode cL_build 68 = .ok (.goto (-43), 3) := by decide +kernel
theorem dL_build_71 : decode cL_build 71 = .ok (.aload_n 2, 1) := by decide +kernel
theorem dL_build_72 : decode cL_build 72 = .ok (.areturn, 1) := by decide +kernel
set_option maxRecDepth 20000 in
theorem ggL_law_X3_init : GoodIn wsL_law wsX3_init := goodIn_r _ [24, 25, 26, 27, 28, 29, 30, 31, 32, 33, 34, 35, 36, 37, 38, 39, 40, 3, 41, 42, 43, 44, 45, 46, 47, 48, 49, 50, 51, 52, 53, 54, 384, 385, 368, 369, 370, 386, 387, 388, 389, 390, 391, 392, 393, 394, 395, 396, 397, 398, 399] (by decide +kernel) (by decide +kernel)
set_option maxRecDepth 20000 in
theorem gL_law_X3_init : GoodIn wsL_law (wsX3_init) := ggL_law_X3_init
set_option maxRecDepth 100000 in
theorem hggL_law_L_build_r1 : GoodIn wsL_law (.code yL_build cL_build 5 (some (.object "WidowPenniesLaw$Sim")) :: wsL_build_r1) := goodIn_r (big := wsL_law) (.code yL_build cL_build 5 (some (.object "WidowPenniesLaw$Sim")) :: wsL_build_r1) [58, 59, 60, 61, 62, 63, 64, 65, 26, 27, 3, 66, 67, 68, 69, 70, 71, 57, 72, 73, 74, 75, 76, 77, 78] rfl (by decide +kernel)
set_option maxRecDepth 100000 in
theorem hggL_law_L_build_r2 : GoodIn wsL_law wsL_build_r2 := goodIn_r (big := wsL_law) wsL_build_r2 [79, 80, 11, 81, 82, 83, 84, 4, 85, 86, 87, 88, 10, 12, 13, 14, 15, 16, 17, 89, 90, 91, 2, 92] rfl (by decide +kernel)
set_option maxRecDepth 100000 in
theorem hggL_law_L_build_r3 : GoodIn wsL_law wsL_build_r3 := goodIn_r (big := wsL_law) wsL_build_r3 [93, 94, 95, 96, 31, 97, 98, 99, 100, 101, 102, 30, 103, 41, 104, 105, 106, 107, 108, 109, 110, 111, 112, 113] rfl (by decide +kernel)
set_option maxRecDepth 100000 in
theorem hggL_law_L_build_r4 : GoodIn wsL_law wsL_build_r4 := goodIn_r (big := wsL_law) wsL_build_r4 [114, 115, 42, 116, 117, 118, 119, 120, 121, 122, 123, 124, 125, 126, 127, 128, 129, 130, 131, 132, 133, 134, 135, 136] rfl (by decide +kernel)
set_option maxRecDepth 100000 in
theorem hggL_law_L_build_r5 : GoodIn wsL_law wsL_build_r5 := goodIn_r (big := wsL_law) wsL_build_r5 [137, 35, 138, 139, 140, 141, 142, 143, 144, 145, 146, 34, 147, 49, 148, 149, 150, 51, 151, 152, 153, 154, 155, 156] rfl (by decide +kernel)
set_option maxRecDepth 100000 in
theorem hggL_law_L_build_r6 : GoodIn wsL_law wsL_build_r6 := goodIn_r (big := wsL_law) wsL_build_r6 [157, 158, 159, 160, 161, 162, 163, 164, 165, 166, 167, 168, 169, 170, 171, 172, 173, 174, 175, 176, 177, 178, 179, 180] rfl (by decide +kernel)
set_option maxRecDepth 100000 in
theorem hggL_law_L_build_r7 : GoodIn wsL_law wsL_build_r7 := goodIn_r (big := wsL_law) wsL_build_r7 [181, 182, 183, 184, 185, 186, 187, 188, 189, 190, 191, 192, 193, 194, 195, 196, 197, 198, 199, 200, 201, 202, 203, 204] rfl (by decide +kernel)
set_option maxRecDepth 100000 in
theorem hggL_law_L_build_r8 : GoodIn wsL_law wsL_build_r8 := goodIn_r (big := wsL_law) wsL_build_r8 [205, 206, 207, 208, 209, 210, 211, 212, 213, 214, 215, 216, 217, 218, 219, 220, 221, 222, 223, 224, 225, 226, 227, 228] rfl (by decide +kernel)
set_option maxRecDepth 100000 in
theorem hggL_law_L_build_r9 : GoodIn wsL_law wsL_build_r9 := goodIn_r (big := wsL_law) wsL_build_r9 [229, 230, 231, 232, 233, 234, 235, 236, 237, 238, 239, 240, 241, 242, 47, 243, 244, 245, 246, 247, 248, 249, 250, 251] rfl (by decide +kernel)
set_option maxRecDepth 100000 in
theorem hggL_law_L_build_r10 : GoodIn wsL_law wsL_build_r10 := goodIn_r (big := wsL_law) wsL_build_r10 [252, 253, 254, 255, 256, 257, 258, 259, 260, 261, 262, 263, 264, 265, 266, 267, 268, 269, 270, 271, 272, 273, 274, 275] rfl (by decide +kernel)
set_option maxRecDepth 100000 in
theorem hggL_law_L_build_r11 : GoodIn wsL_law wsL_build_r11 := goodIn_r (big := wsL_law) wsL_build_r11 [276, 277, 278, 279, 280, 281, 282, 283, 284, 285, 286, 287, 288, 289, 290, 291, 292, 293, 294, 295, 296, 297, 298, 299] rfl (by decide +kernel)
set_option maxRecDepth 100000 in
theorem hggL_law_L_build_r12 : GoodIn wsL_law wsL_build_r12 := goodIn_r (big := wsL_law) wsL_build_r12 [300, 301] rfl (by decide +kernel)
theorem hggL_law_L_build_wsX40 : GoodIn wsL_law wsX40 := goodIn_sub inlX4 (by decide +kernel)
theorem hggL_law_L_build_wsX50 : GoodIn wsL_law wsX50 := goodIn_sub inlX5 (by decide +kernel)
theorem hggL_law_L_build_wsX30 : GoodIn wsL_law wsX30 := goodIn_sub inlX3 (by decide +kernel)
theorem hggL_law_L_build_wsX10 : GoodIn wsL_law wsX10 := goodIn_sub inlX1 (by decide +kernel)
theorem hggL_law_L_build_wsX20 : GoodIn wsL_law wsX20 := goodIn_sub inlX2 (by decide +kernel)
theorem hggL_law_L_build_wsX00 : GoodIn wsL_law wsX00 := goodIn_sub inlX0 (by decide +kernel)
set_option maxRecDepth 100000 in
theorem ggL_law_L_build : GoodIn wsL_law wsL_build := goodIn_ca (goodIn_ca (goodIn_ca (goodIn_ca (goodIn_ca (goodIn_ca (goodIn_ca (goodIn_ca (goodIn_ca (goodIn_ca hggL_law_L_build_r1 (goodIn_app hggL_law_L_build_r2 (goodIn_app hggL_law_L_build_r3 (goodIn_app hggL_law_L_build_r4 (goodIn_app hggL_law_L_build_r5 (goodIn_app hggL_law_L_build_r6 (goodIn_app hggL_law_L_build_r7 (goodIn_app hggL_law_L_build_r8 (goodIn_app hggL_law_L_build_r9 (goodIn_app hggL_law_L_build_r10 (goodIn_app hggL_law_L_build_r11 hggL_law_L_build_r12))))))))))) hggL_law_L_build_wsX40) hggL_law_L_build_wsX50) hggL_law_L_build_wsX30) hggL_law_L_build_wsX10) hggL_law_L_build_wsX20) hggL_law_L_build_wsX00) (goodIn_sub (fun _ h => List.mem_append_left _ (List.mem_append_left _ (List.mem_append_right _ h))) (by decide +kernel))) (goodIn_sub (fun _ h => List.mem_append_left _ (List.mem_append_right _ h)) (by decide +kernel))) (goodIn_sub (fun _ h => List.mem_append_right _ h) (by decide +kernel))
set_option maxRecDepth 20000 in
theorem gL_law_L_build : GoodIn wsL_law (va_wsS RL 115 yL_build wsL_build) := goodIn_app (goodIn_of _ (by decide +kernel)) ggL_law_L_build
set_option maxRecDepth 20000 in
theorem ggL_law_L_cell : GoodIn wsL_law wsL_cell := goodIn_r _ [72, 73] (by decide +kernel) (by decide +kernel)
set_option maxRecDepth 20000 in
theorem gL_law_L_cell : GoodIn wsL_law (va_wsS RL 106 yL_cell wsL_cell) := goodIn_app (goodIn_of _ (by decide +kernel)) ggL_law_L_cell
set_option maxRecDepth 100000 in
theorem hggL_law_L_act_r1 : GoodIn wsL_law (.code yL_act cL_act 19 (some .boolean) :: wsL_act_r1) := goodIn_r (big := wsL_law) (.code yL_act cL_act 19 (some .boolean) :: wsL_act_r1) [80, 11, 81, 82, 83, 84, 4, 85, 86, 87, 88, 10, 12, 13, 14, 15, 16, 17, 74, 75, 57, 76, 77, 89, 90] rfl (by decide +kernel)
set_option maxRecDepth 100000 in
theorem hggL_law_L_act_r2 : GoodIn wsL_law wsL_act_r2 := goodIn_r (big := wsL_law) wsL_act_r2 [91, 2, 92, 93, 94, 95, 96, 31, 97, 98, 99, 100, 101, 102, 30, 103, 41, 104, 105, 106, 107, 108, 109, 110] rfl (by decide +kernel)
set_option maxRecDepth 100000 in
theorem hggL_law_L_act_r3 : GoodIn wsL_law wsL_act_r3 := goodIn_r (big := wsL_law) wsL_act_r3 [111, 112, 113, 114, 115, 42, 116, 117, 118, 119, 120, 121, 122, 61, 123, 124, 125, 126, 127, 128, 129, 130, 131, 67] rfl (by decide +kernel)
set_option maxRecDepth 100000 in
theorem hggL_law_L_act_r4 : GoodIn wsL_law wsL_act_r4 := goodIn_r (big := wsL_law) wsL_act_r4 [66, 132, 133, 134, 135, 136, 137, 35, 138, 139, 140, 141, 142, 143, 144, 145, 146, 34, 147, 49, 148, 149, 150, 51] rfl (by decide +kernel)
set_option maxRecDepth 100000 in
theorem hggL_law_L_act_r5 : GoodIn wsL_law wsL_act_r5 := goodIn_r (big := wsL_law) wsL_act_r5 [151, 152, 153, 154, 155, 156, 157, 158, 159, 160, 161, 162, 163, 164, 165, 166, 167, 168, 169, 170, 171, 172, 173, 174] rfl (by decide +kernel)
set_option maxRecDepth 100000 in
theorem hggL_law_L_act_r6 : GoodIn wsL_law wsL_act_r6 := goodIn_r (big := wsL_law) wsL_act_r6 [175, 176, 177, 178, 179, 180, 181, 182, 183, 184, 185, 186, 187, 188, 189, 190, 191, 192, 193, 194, 195, 196, 197, 198] rfl (by decide +kernel)
set_option maxRecDepth 100000 in
theorem hggL_law_L_act_r7 : GoodIn wsL_law wsL_act_r7 := goodIn_r (big := wsL_law) wsL_act_r7 [199, 200, 201, 202, 203, 204, 205, 206, 207, 208, 209, 210, 211, 212, 213, 214, 215, 216, 217, 218, 219, 220, 221, 222] rfl (by decide +kernel)
set_option maxRecDepth 100000 in
theorem hggL_law_L_act_r8 : GoodIn wsL_law wsL_act_r8 := goodIn_r (big := wsL_law) wsL_act_r8 [69, 223, 224, 225, 226, 227, 228, 229, 230, 231, 232, 233, 234, 235, 236, 237, 238, 239, 240, 241, 242, 47, 243, 244] rfl (by decide +kernel)
set_option maxRecDepth 100000 in
theorem hggL_law_L_act_r9 : GoodIn wsL_law wsL_act_r9 := goodIn_r (big := wsL_law) wsL_act_r9 [245, 246, 247, 248, 249, 250, 251, 252, 253, 254, 255, 256, 257, 258, 259, 260, 261, 262, 26, 27, 263, 264, 265, 266] rfl (by decide +kernel)
set_option maxRecDepth 100000 in
theorem hggL_law_L_act_r10 : GoodIn wsL_law wsL_act_r10 := goodIn_r (big := wsL_law) wsL_act_r10 [267, 268, 269, 270, 271, 272, 273, 274, 275, 276, 277, 278, 279, 280, 281, 282, 283, 284, 285, 286, 287, 288, 289, 290] rfl (by decide +kernel)
set_option maxRecDepth 100000 in
theorem hggL_law_L_act_r11 : GoodIn wsL_law wsL_act_r11 := goodIn_r (big := wsL_law) wsL_act_r11 [291, 292, 293, 294, 295, 296, 297, 298, 299, 300, 301] rfl (by decide +kernel)
theorem hggL_law_L_act_wsX40 : GoodIn wsL_law wsX40 := goodIn_sub inlX4 (by decide +kernel)
theorem hggL_law_L_act_wsX50 : GoodIn wsL_law wsX50 := goodIn_sub inlX5 (by decide +kernel)
theorem hggL_law_L_act_wsX30 : GoodIn wsL_law wsX30 := goodIn_sub inlX3 (by decide +kernel)
theorem hggL_law_L_act_wsX10 : GoodIn wsL_law wsX10 := goodIn_sub inlX1 (by decide +kernel)
theorem hggL_law_L_act_wsX20 : GoodIn wsL_law wsX20 := goodIn_sub inlX2 (by decide +kernel)
theorem hggL_law_L_act_wsX00 : GoodIn wsL_law wsX00 := goodIn_sub inlX0 (by decide +kernel)
set_option maxRecDepth 100000 in
theorem ggL_law_L_act : GoodIn wsL_law wsL_act := goodIn_ca (goodIn_ca (goodIn_ca (goodIn_ca (goodIn_ca (goodIn_ca (goodIn_ca (goodIn_ca (goodIn_ca (goodIn_ca hggL_law_L_act_r1 (goodIn_app hggL_law_L_act_r2 (goodIn_app hggL_law_L_act_r3 (goodIn_app hggL_law_L_act_r4 (goodIn_app hggL_law_L_act_r5 (goodIn_app hggL_law_L_act_r6 (goodIn_app hggL_law_L_act_r7 (goodIn_app hggL_law_L_act_r8 (goodIn_app hggL_law_L_act_r9 (goodIn_app hggL_law_L_act_r10 hggL_law_L_act_r11)))))))))) hggL_law_L_act_wsX40) hggL_law_L_act_wsX50) hggL_law_L_act_wsX30) hggL_law_L_act_wsX10) hggL_law_L_act_wsX20) hggL_law_L_act_wsX00) (goodIn_sub (fun _ h => List.mem_append_left _ (List.mem_append_left _ (List.mem_append_right _ h))) (by decide +kernel))) (goodIn_sub (fun _ h => List.mem_append_left _ (List.mem_append_right _ h)) (by decide +kernel))) (goodIn_sub (fun _ h => List.mem_append_right _ h) (by decide +kernel))
set_option maxRecDepth 20000 in
theorem gL_law_L_act : GoodIn wsL_law (va_wsS RL 110 yL_act wsL_act) := goodIn_app (goodIn_of _ (by decide +kernel)) ggL_law_L_act
set_option maxRecDepth 20000 in
theorem ggL_law_X3_count : GoodIn wsL_law wsX3_count := goodIn_ca (goodIn_r _ [305, 93, 94, 35, 306, 307, 308, 34, 309, 245, 244, 197, 47, 198, 296, 310, 311, 312, 313, 248, 145, 146, 147, 49, 249, 149, 150, 51, 151, 152, 246, 113, 114, 30, 115, 42, 314, 315, 316, 317, 318, 158, 159, 160, 161, 162, 163, 164, 165, 166, 167, 168, 169, 101, 102, 103, 41, 98, 2, 99, 319, 320, 321, 322, 323, 324, 368, 369, 370, 386, 387, 388, 389, 390, 391, 392, 393, 394, 395, 396, 397, 398, 399, 384, 385] (by decide +kernel) (by decide +kernel)) (goodIn_sub (fun _ h => List.mem_append_left _ (List.mem_append_left _ (List.mem_append_right _ h))) (by decide +kernel))
set_option maxRecDepth 20000 in
theorem gL_law_X3_count : GoodIn wsL_law (wsV RL 119 RX3 yX3_count wsX3_count) := goodIn_app (goodIn_of _ (by decide +kernel)) ggL_law_X3_count
set_option maxRecDepth 20000 in
theorem ggL_law_X3_told : GoodIn wsL_law wsX3_told := goodIn_ca (goodIn_r _ [328, 93, 94, 31, 35, 139, 140, 141, 2, 142, 143, 144, 145, 146, 34, 147, 49, 329, 330, 331, 30, 332, 162, 161, 163, 333, 334, 335, 336, 192, 154, 155, 156, 42, 157, 158, 159, 160, 164, 149, 150, 51, 151, 152, 165, 166, 167, 168, 169, 101, 102, 103, 41, 98, 99, 337, 188, 189, 190, 191, 182, 183, 184, 185, 186, 368, 369, 370, 386, 387, 388, 389, 390, 391, 392, 393, 394, 395, 396, 397, 398, 399, 384, 385] (by decide +kernel) (by decide +kernel)) (goodIn_sub (fun _ h => List.mem_append_left _ (List.mem_append_left _ (List.mem_append_right _ h))) (by decide +kernel))
set_option maxRecDepth 20000 in
theorem gL_law_X3_told : GoodIn wsL_law (wsV RL 122 RX3 yX3_told wsX3_told) := goodIn_app (goodIn_of _ (by decide +kernel)) ggL_law_X3_told
set_option maxRecDepth 20000 in
theorem ggL_law_L_below : GoodIn wsL_law wsL_below := goodIn_r _ [76, 77] (by decide +kernel) (by decide +kernel)
set_option maxRecDepth 20000 in
theorem gL_law_L_below : GoodIn wsL_law (va_wsS RL 15 yL_below wsL_below) := goodIn_app (goodIn_of _ (by decide +kernel)) ggL_law_L_below
set_option maxRecDepth 20000 in
theorem ggL_law_X3_price : GoodIn wsL_law wsX3_price := goodIn_ca (goodIn_r _ [341, 31, 271, 272, 2, 273, 95, 96, 97, 98, 99, 274, 275, 276, 277, 278, 279, 284, 285, 286, 30, 287, 42, 165, 166, 167, 168, 169, 101, 102, 103, 41, 288, 289, 290, 291, 368, 369, 370, 384, 385] (by decide +kernel) (by decide +kernel)) (goodIn_sub (fun _ h => List.mem_append_left _ (List.mem_append_right _ h)) (by decide +kernel))
set_option maxRecDepth 20000 in
theorem gL_law_X3_price : GoodIn wsL_law (wsV RL 125 RX3 yX3_price wsX3_price) := goodIn_app (goodIn_of _ (by decide +kernel)) ggL_law_X3_price
set_option maxRecDepth 20000 in
theorem ggL_law_X3_buy : GoodIn wsL_law wsX3_buy := goodIn_ca (goodIn_ca (goodIn_r _ [270, 136, 137, 35, 31, 271, 272, 2, 273, 95, 96, 97, 98, 99, 274, 275, 276, 277, 278, 279, 280, 281, 282, 34, 283, 244, 284, 285, 286, 30, 287, 42, 165, 166, 167, 168, 169, 101, 102, 103, 41, 288, 289, 290, 291, 292, 293, 294, 295, 296, 248, 145, 146, 147, 49, 297, 298, 299, 51, 300, 257, 255, 254, 185, 152, 256, 301, 247, 214, 215, 216, 197, 217, 368, 369, 370, 386, 387, 388, 389, 390, 391, 392, 384, 385, 393, 394, 395, 396, 397, 398, 399] (by decide +kernel) (by decide +kernel)) (goodIn_sub (fun _ h => List.mem_append_right _ h) (by decide +kernel))) (goodIn_sub (fun _ h => List.mem_append_left _ (List.mem_append_right _ h)) (by decide +kernel))
set_option maxRecDepth 20000 in
theorem gL_law_X3_buy : GoodIn wsL_law (wsV RL 102 RX3 yX3_buy wsX3_buy) := goodIn_app (goodIn_of _ (by decide +kernel)) ggL_law_X3_buy
set_option maxRecDepth 20000 in
theorem ggL_law_X5_init : GoodIn wsL_law wsX5_init := goodIn_r _ [261, 262, 26, 27] (by decide +kernel) (by decide +kernel)
set_option maxRecDepth 20000 in
theorem gL_law_X5_init_n86 : GoodIn wsL_law (wsX5_init) := ggL_law_X5_init
set_option maxRecDepth 20000 in
theorem ggL_law_X4_come : GoodIn wsL_law wsX4_come := goodIn_r _ [202, 203, 204, 205, 371, 372, 373, 374, 375, 376] (by decide +kernel) (by decide +kernel)
set_option maxRecDepth 20000 in
theorem gL_law_X4_come : GoodIn wsL_law (wsV RL 70 RX4 yX4_come wsX4_come) := goodIn_app (goodIn_of _ (by decide +kernel)) ggL_law_X4_come
set_option maxRecDepth 20000 in
theorem ggL_law_X3_pass : GoodIn wsL_law wsX3_pass := goodIn_ca (goodIn_r _ [230, 35, 231, 232, 233, 2, 234, 95, 96, 235, 236, 237, 34, 238, 239, 240, 241, 242, 197, 47, 243, 244, 245, 246, 113, 114, 30, 115, 42, 247, 214, 215, 216, 217, 248, 145, 146, 147, 49, 249, 149, 150, 51, 151, 152, 250, 251, 252, 253, 254, 255, 256, 257, 185, 258, 194, 195, 196, 198, 368, 369, 370, 386, 387, 388, 389, 390, 391, 392, 384, 385, 393, 394, 395, 396, 397, 398, 399] (by decide +kernel) (by decide +kernel)) (goodIn_sub (fun _ h => List.mem_append_left _ (List.mem_append_right _ h)) (by decide +kernel))
set_option maxRecDepth 20000 in
theorem gL_law_X3_pass : GoodIn wsL_law (wsV RL 81 RX3 yX3_pass wsX3_pass) := goodIn_app (goodIn_of _ (by decide +kernel)) ggL_law_X3_pass
set_option maxRecDepth 20000 in
theorem ggL_law_X4_pass : GoodIn wsL_law wsX4_pass := goodIn_r _ [221, 203, 66, 222, 69, 124, 127, 223, 125, 126, 174, 224, 225, 226, 200, 201, 61, 202, 204, 205, 371, 372, 373, 374, 375, 376, 377, 378, 379, 380, 381, 382, 383] (by decide +kernel) (by decide +kernel)
set_option maxRecDepth 20000 in
theorem gL_law_X4_pass : GoodIn wsL_law (wsV RL 77 RX4 yX4_pass wsX4_pass) := goodIn_app (goodIn_of _ (by decide +kernel)) ggL_law_X4_pass
set_option maxRecDepth 20000 in
theorem ggL_law_X4_isSame : GoodIn wsL_law wsX4_isSame := goodIn_ca (goodIn_r _ [345, 69, 3, 126, 125, 127, 174, 124, 223, 346, 175, 121, 122, 61, 123, 128, 129, 130, 131, 67, 66, 347, 171, 172, 173, 348, 326, 327, 2, 328, 93, 94, 31, 35, 139, 140, 141, 142, 143, 144, 145, 146, 34, 147, 49, 329, 330, 331, 30, 332, 162, 161, 163, 333, 334, 335, 336, 192, 154, 155, 156, 42, 157, 158, 159, 160, 164, 149, 150, 51, 151, 152, 165, 166, 167, 168, 169, 101, 102, 103, 41, 98, 99, 337, 188, 189, 190, 191, 182, 183, 184, 185, 186, 349, 303, 304, 305, 306, 307, 308, 309, 245, 244, 197, 47, 198, 296, 310, 311, 312, 313, 248, 249, 246, 113, 114, 115, 314, 315, 316, 317, 318, 319, 320, 321, 322, 323, 324, 350, 351, 352, 353, 225, 203, 224, 354, 355, 356, 357, 358, 359, 360, 361, 362, 363, 364, 365, 366, 367, 371, 372, 373, 374, 375, 376, 377, 378, 379, 380, 381, 382, 383, 368, 369, 370, 386, 387, 388, 389, 390, 391, 392, 393, 394, 395, 396, 397, 398, 399, 384, 385] (by decide +kernel) (by decide +kernel)) (goodIn_sub (fun _ h => List.mem_append_left _ (List.mem_append_left _ (List.mem_append_right _ h))) (by decide +kernel))
set_option maxRecDepth 20000 in
theorem gL_law_X4_isSame : GoodIn wsL_law (wsV RL 138 RX4 yX4_isSame wsX4_isSame) := goodIn_app (goodIn_of _ (by decide +kernel)) ggL_law_X4_isSame
theorem dL_law_0 : decode cL_law 0 = .ok (.new 26, 3) := by decide +kernel
theorem dL_law_3 : decode cL_law 3 = .ok (.dup, 1) := by decide +kernel
theorem dL_law_4 : decode cL_law 4 = .ok (.invokespecial 114, 3) := by decide +kernel
theorem dL_law_7 : decode cL_law 7 = .ok (.astore_n 1, 1) := by decide +kernel
theorem dL_law_8 : decode cL_law 8 = .ok (.aload_n 1, 1) := by decide +kernel
theorem dL_law_9 : decode cL_law 9 = .ok (.aload_n 0, 1) := by decide +kernel
theorem dL_law_10 : decode cL_law 10 = .ok (.invokestatic 115, 3) := by decide +kernel
theorem dL_law_13 : decode cL_law 13 = .ok (.astore_n 2, 1) := by decide +kernel
theorem dL_law_14 : decode cL_law 14 = .ok (.aload_n 2, 1) := by decide +kernel
theorem dL_law_15 : decode cL_law 15 = .ok (.ifnonnull 5, 3) := by decide +kernel
theorem dL_law_18 : decode cL_law 18 = .ok (.iconst 0, 1) := by decide +kernel
theorem dL_law_19 : decode cL_law 19 = .ok (.ireturn, 1) := by decide +kernel
theorem dL_law_20 : decode cL_law 20 = .ok (.iconst 0, 1) := by decide +kernel
theorem dL_law_21 : decode cL_law 21 = .ok (.istore_n 3, 1) := by decide +kernel
theorem dL_law_22 : decode cL_law 22 = .ok (.iload_n 3, 1) := by decide +kernel
theorem dL_law_23 : decode cL_law 23 = .ok (.bipush 30, 2) := by decide +kernel
theorem dL_law_25 : decode cL_law 25 = .ok (.if_icmp .ge 844, 3) := by decide +kernel
theorem dL_law_28 : decode cL_law 28 = .ok (.aload_n 0, 1) := by decide +kernel
theorem dL_law_29 : decode cL_law 29 = .ok (.iload_n 3, 1) := by decide +kernel
theorem dL_law_30 : decode cL_law 30 = .ok (.bipush 16, 2) := by decide +kernel
theorem dL_law_32 : decode cL_law 32 = .ok (.irem, 1) := by decide +kernel
theorem dL_law_33 : decode cL_law 33 = .ok (.invokestatic 106, 3) := by decide +kernel
theorem dL_law_36 : decode cL_law 36 = .ok (.iload_n 3, 1) := by decide +kernel
theorem dL_law_37 : decode cL_law 37 = .ok (.bipush 16, 2) := by decide +kernel
theorem dL_law_39 : decode cL_law 39 = .ok (.idiv, 1) := by decide +kernel
theorem dL_law_40 : decode cL_law 40 = .ok (.iconst 3, 1) := by decide +kernel
theorem dL_law_41 : decode cL_law 41 = .ok (.imul, 1) := by decide +kernel
theorem dL_law_42 : decode cL_law 42 = .ok (.ishr, 1) := by decide +kernel
theorem dL_law_43 : decode cL_law 43 = .ok (.sipush 409, 3) := by decide +kernel
theorem dL_law_46 : decode cL_law 46 = .ok (.iload_n 3, 1) := by decide +kernel
theorem dL_law_47 : decode cL_law 47 = .ok (.imul, 1) := by decide +kernel
theorem dL_law_48 : decode cL_law 48 = .ok (.iadd, 1) := by decide +kernel
theorem dL_law_49 : decode cL_law 49 = .ok (.istore 4, 2) := by decide +kernel
theorem dL_law_51 : decode cL_law 51 = .ok (.aload_n 1, 1) := by decide +kernel
theorem dL_law_52 : decode cL_law 52 = .ok (.aload_n 2, 1) := by decide +kernel
theorem dL_law_53 : decode cL_law 53 = .ok (.iload 4, 2) := by decide +kernel
theorem dL_law_55 : decode cL_law 55 = .ok (.invokestatic 110, 3) := by decide +kernel
theorem dL_law_58 : decode cL_law 58 = .ok (.ifCond .ne 5, 3) := by decide +kernel
theorem dL_law_61 : decode cL_law 61 = .ok (.iconst 0, 1) := by decide +kernel
theorem dL_law_62 : decode cL_law 62 = .ok (.ireturn, 1) := by decide +kernel
theorem dL_law_63 : decode cL_law 63 = .ok (.aload_n 1, 1) := by decide +kernel
theorem dL_law_64 : decode cL_law 64 = .ok (.iconst 1, 1) := by decide +kernel
theorem dL_law_65 : decode cL_law 65 = .ok (.invokevirtual 119, 3) := by decide +kernel
theorem dL_law_68 : decode cL_law 68 = .ok (.istore 5, 2) := by decide +kernel
theorem dL_law_70 : decode cL_law 70 = .ok (.aload_n 1, 1) := by decide +kernel
theorem dL_law_71 : decode cL_law 71 = .ok (.iconst 3, 1) := by decide +kernel
theorem dL_law_72 : decode cL_law 72 = .ok (.invokevirtual 119, 3) := by decide +kernel
theorem dL_law_75 : decode cL_law 75 = .ok (.istore 6, 2) := by decide +kernel
theorem dL_law_77 : decode cL_law 77 = .ok (.aload_n 1, 1) := by decide +kernel
theorem dL_law_78 : decode cL_law 78 = .ok (.bipush 7, 2) := by decide +kernel
theorem dL_law_80 : decode cL_law 80 = .ok (.invokevirtual 119, 3) := by decide +kernel
theorem dL_law_83 : decode cL_law 83 = .ok (.istore 7, 2) := by decide +kernel
theorem dL_law_85 : decode cL_law 85 = .ok (.aload_n 1, 1) := by decide +kernel
theorem dL_law_86 : decode cL_law 86 = .ok (.iconst 0, 1) := by decide +kernel
theorem dL_law_87 : decode cL_law 87 = .ok (.invokevirtual 119, 3) := by decide +kernel
theorem dL_law_90 : decode cL_law 90 = .ok (.istore 8, 2) := by decide +kernel
theorem dL_law_92 : decode cL_law 92 = .ok (.iload 5, 2) := by decide +kernel
theorem dL_law_94 : decode cL_law 94 = .ok (.newarray .int, 2) := by decide +kernel
theorem dL_law_96 : decode cL_law 96 = .ok (.astore 9, 2) := by decide +kernel
theorem dL_law_98 : decode cL_law 98 = .ok (.iload 5, 2) := by decide +kernel
theorem dL_law_100 : decode cL_law 100 = .ok (.newarray .int, 2) := by decide +kernel
theorem dL_law_102 : decode cL_law 102 = .ok (.astore 10, 2) := by decide +kernel
theorem dL_law_104 : decode cL_law 104 = .ok (.iload 5, 2) := by decide +kernel
theorem dL_law_106 : decode cL_law 106 = .ok (.newarray .int, 2) := by decide +kernel
theorem dL_law_108 : decode cL_law 108 = .ok (.astore 11, 2) := by decide +kernel
theorem dL_law_110 : decode cL_law 110 = .ok (.iload 5, 2) := by decide +kernel
theorem dL_law_112 : decode cL_law 112 = .ok (.newarray .int, 2) := by decide +kernel
theorem dL_law_114 : decode cL_law 114 = .ok (.astore 12, 2) := by decide +kernel
theorem dL_law_116 : decode cL_law 116 = .ok (.iconst 0, 1) := by decide +kernel
theorem dL_law_117 : decode cL_law 117 = .ok (.istore 13, 2) := by decide +kernel
theorem dL_law_119 : decode cL_law 119 = .ok (.iconst 0, 1) := by decide +kernel
theorem dL_law_120 : decode cL_law 120 = .ok (.istore 14, 2) := by decide +kernel
theorem dL_law_122 : decode cL_law 122 = .ok (.iload 14, 2) := by decide +kernel
theorem dL_law_124 : decode cL_law 124 = .ok (.iload 5, 2) := by decide +kernel
theorem dL_law_126 : decode cL_law 126 = .ok (.if_icmp .ge 183, 3) := by decide +kernel
theorem dL_law_129 : decode cL_law 129 = .ok (.aload 11, 2) := by decide +kernel
theorem dL_law_131 : decode cL_law 131 = .ok (.iload 14, 2) := by decide +kernel
theorem dL_law_133 : decode cL_law 133 = .ok (.aload_n 1, 1) := by decide +kernel
theorem dL_law_134 : decode cL_law 134 = .ok (.iload 14, 2) := by decide +kernel
theorem dL_law_136 : decode cL_law 136 = .ok (.iconst 0, 1) := by decide +kernel
theorem dL_law_137 : decode cL_law 137 = .ok (.invokevirtual 122, 3) := by decide +kernel
theorem dL_law_140 : decode cL_law 140 = .ok (.iastore, 1) := by decide +kernel
theorem dL_law_141 : decode cL_law 141 = .ok (.aload 9, 2) := by decide +kernel
theorem dL_law_143 : decode cL_law 143 = .ok (.iload 14, 2) := by decide +kernel
theorem dL_law_145 : decode cL_law 145 = .ok (.aload_n 1, 1) := by decide +kernel
theorem dL_law_146 : decode cL_law 146 = .ok (.iload 14, 2) := by decide +kernel
theorem dL_law_148 : decode cL_law 148 = .ok (.iconst 2, 1) := by decide +kernel
theorem dL_law_149 : decode cL_law 149 = .ok (.invokevirtual 122, 3) := by decide +kernel
theorem dL_law_152 : decode cL_law 152 = .ok (.iastore, 1) := by decide +kernel
theorem dL_law_153 : decode cL_law 153 = .ok (.aload 12, 2) := by decide +kernel
theorem dL_law_155 : decode cL_law 155 = .ok (.iload 14, 2) := by decide +kernel
theorem dL_law_157 : decode cL_law 157 = .ok (.aload_n 1, 1) := by decide +kernel
theorem dL_law_158 : decode cL_law 158 = .ok (.iload 14, 2) := by decide +kernel
theorem dL_law_160 : decode cL_law 160 = .ok (.iconst 4, 1) := by decide +kernel
theorem dL_law_161 : decode cL_law 161 = .ok (.invokevirtual 122, 3) := by decide +kernel
theorem dL_law_164 : decode cL_law 164 = .ok (.iastore, 1) := by decide +kernel
theorem dL_law_165 : decode cL_law 165 = .ok (.aload 10, 2) := by decide +kernel
theorem dL_law_167 : decode cL_law 167 = .ok (.iload 14, 2) := by decide +kernel
theorem dL_law_169 : decode cL_law 169 = .ok (.aload_n 1, 1) := by decide +kernel
theorem dL_law_170 : decode cL_law 170 = .ok (.iload 14, 2) := by decide +kernel
theorem dL_law_172 : decode cL_law 172 = .ok (.bipush 6, 2) := by decide +kernel
theorem dL_law_174 : decode cL_law 174 = .ok (.invokevirtual 122, 3) := by decide +kernel
theorem dL_law_177 : decode cL_law 177 = .ok (.iastore, 1) := by decide +kernel
theorem dL_law_178 : decode cL_law 178 = .ok (.iload 13, 2) := by decide +kernel
theorem dL_law_180 : decode cL_law 180 = .ok (.aload 12, 2) := by decide +kernel
theorem dL_law_182 : decode cL_law 182 = .ok (.iload 14, 2) := by decide +kernel
theorem dL_law_184 : decode cL_law 184 = .ok (.iaload, 1) := by decide +kernel
theorem dL_law_185 : decode cL_law 185 = .ok (.ifCond .ne 21, 3) := by decide +kernel
theorem dL_law_188 : decode cL_law 188 = .ok (.aload 9, 2) := by decide +kernel
theorem dL_law_190 : decode cL_law 190 = .ok (.iload 14, 2) := by decide +kernel
theorem dL_law_192 : decode cL_law 192 = .ok (.iaload, 1) := by decide +kernel
theorem dL_law_193 : decode cL_law 193 = .ok (.ifCond .ne 13, 3) := by decide +kernel
theorem dL_law_196 : decode cL_law 196 = .ok (.aload_n 1, 1) := by decide +kernel
theorem dL_law_197 : decode cL_law 197 = .ok (.iload 14, 2) := by decide +kernel
theorem dL_law_199 : decode cL_law 199 = .ok (.iconst 1, 1) := by decide +kernel
theorem dL_law_200 : decode cL_law 200 = .ok (.invokevirtual 122, 3) := by decide +kernel
theorem dL_law_203 : decode cL_law 203 = .ok (.goto 4, 3) := by decide +kernel
theorem dL_law_206 : decode cL_law 206 = .ok (.iconst 0, 1) := by decide +kernel
theorem dL_law_207 : decode cL_law 207 = .ok (.iadd, 1) := by decide +kernel
theorem dL_law_208 : decode cL_law 208 = .ok (.istore 13, 2) := by decide +kernel
theorem dL_law_210 : decode cL_law 210 = .ok (.aload_n 1, 1) := by decide +kernel
theorem dL_law_211 : decode cL_law 211 = .ok (.iload 14, 2) := by decide +kernel
theorem dL_law_213 : decode cL_law 213 = .ok (.iconst 5, 1) := by decide +kernel
theorem dL_law_214 : decode cL_law 214 = .ok (.invokevirtual 122, 3) := by decide +kernel
theorem dL_law_217 : decode cL_law 217 = .ok (.ifCond .lt 84, 3) := by decide +kernel
theorem dL_law_220 : decode cL_law 220 = .ok (.aload 12, 2) := by decide +kernel
theorem dL_law_222 : decode cL_law 222 = .ok (.iload 14, 2) := by decide +kernel
theorem dL_law_224 : decode cL_law 224 = .ok (.iaload, 1) := by decide +kernel
theorem dL_law_225 : decode cL_law 225 = .ok (.ifCond .eq 13, 3) := by decide +kernel
theorem dL_law_228 : decode cL_law 228 = .ok (.aload_n 1, 1) := by decide +kernel
theorem dL_law_229 : decode cL_law 229 = .ok (.iload 14, 2) := by decide +kernel
theorem dL_law_231 : decode cL_law 231 = .ok (.iconst 5, 1) := by decide +kernel
theorem dL_law_232 : decode cL_law 232 = .ok (.invokevirtual 122, 3) := by decide +kernel
theorem dL_law_235 : decode cL_law 235 = .ok (.ifCond .ne 66, 3) := by decide +kernel
theorem dL_law_238 : decode cL_law 238 = .ok (.aload_n 1, 1) := by decide +kernel
theorem dL_law_239 : decode cL_law 239 = .ok (.iload 14, 2) := by decide +kernel
theorem dL_law_241 : decode cL_law 241 = .ok (.bipush 8, 2) := by decide +kernel
theorem dL_law_243 : decode cL_law 243 = .ok (.invokevirtual 122, 3) := by decide +kernel
theorem dL_law_246 : decode cL_law 246 = .ok (.aload_n 1, 1) := by decide +kernel
theorem dL_law_247 : decode cL_law 247 = .ok (.iload 14, 2) := by decide +kernel
theorem dL_law_249 : decode cL_law 249 = .ok (.iconst 5, 1) := by decide +kernel
theorem dL_law_250 : decode cL_law 250 = .ok (.invokevirtual 122, 3) := by decide +kernel
theorem dL_law_253 : decode cL_law 253 = .ok (.if_icmp .gt 48, 3) := by decide +kernel
theorem dL_law_256 : decode cL_law 256 = .ok (.aload_n 1, 1) := by decide +kernel
theorem dL_law_257 : decode cL_law 257 = .ok (.iload 14, 2) := by decide +kernel
theorem dL_law_259 : decode cL_law 259 = .ok (.bipush 8, 2) := by decide +kernel
theorem dL_law_261 : decode cL_law 261 = .ok (.invokevirtual 122, 3) := by decide +kernel
theorem dL_law_264 : decode cL_law 264 = .ok (.ifCond .lt 37, 3) := by decide +kernel
theorem dL_law_267 : decode cL_law 267 = .ok (.aload_n 1, 1) := by decide +kernel
theorem dL_law_268 : decode cL_law 268 = .ok (.iload 14, 2) := by decide +kernel
theorem dL_law_270 : decode cL_law 270 = .ok (.iconst 3, 1) := by decide +kernel
theorem dL_law_271 : decode cL_law 271 = .ok (.invokevirtual 122, 3) := by decide +kernel
theorem dL_law_274 : decode cL_law 274 = .ok (.iconst 2, 1) := by decide +kernel
theorem dL_law_275 : decode cL_law 275 = .ok (.if_icmp .ge 14, 3) := by decide +kernel
theorem dL_law_278 : decode cL_law 278 = .ok (.aload_n 1, 1) := by decide +kernel
theorem dL_law_279 : decode cL_law 279 = .ok (.iload 14, 2) := by decide +kernel
theorem dL_law_281 : decode cL_law 281 = .ok (.bipush 8, 2) := by decide +kernel
theorem dL_law_283 : decode cL_law 283 = .ok (.invokevirtual 122, 3) := by decide +kernel
theorem dL_law_286 : decode cL_law 286 = .ok (.ifCond .ne 15, 3) := by decide +kernel
theorem dL_law_289 : decode cL_law 289 = .ok (.aload_n 1, 1) := by decide +kernel
theorem dL_law_290 : decode cL_law 290 = .ok (.iload 14, 2) := by decide +kernel
theorem dL_law_292 : decode cL_law 292 = .ok (.bipush 7, 2) := by decide +kernel
theorem dL_law_294 : decode cL_law 294 = .ok (.invokevirtual 122, 3) := by decide +kernel
theorem dL_law_297 : decode cL_law 297 = .ok (.iconst 1, 1) := by decide +kernel
theorem dL_law_298 : decode cL_law 298 = .ok (.if_icmp .ge 5, 3) := by decide +kernel
theorem dL_law_301 : decode cL_law 301 = .ok (.iconst 0, 1) := by decide +kernel
theorem dL_law_302 : decode cL_law 302 = .ok (.ireturn, 1) := by decide +kernel
theorem dL_law_303 : decode cL_law 303 = .ok (.iinc 14 1, 3) := by decide +kernel
theorem dL_law_306 : decode cL_law 306 = .ok (.goto (-184), 3) := by decide +kernel
theorem dL_law_309 : decode cL_law 309 = .ok (.iload 13, 2) := by decide +kernel
theorem dL_law_311 : decode cL_law 311 = .ok (.aload_n 1, 1) := by decide +kernel
theorem dL_law_312 : decode cL_law 312 = .ok (.bipush 6, 2) := by decide +kernel
theorem dL_law_314 : decode cL_law 314 = .ok (.invokevirtual 119, 3) := by decide +kernel
theorem dL_law_317 : decode cL_law 317 = .ok (.if_icmp .eq 5, 3) := by decide +kernel
theorem dL_law_320 : decode cL_law 320 = .ok (.iconst 0, 1) := by decide +kernel
theorem dL_law_321 : decode cL_law 321 = .ok (.ireturn, 1) := by decide +kernel
theorem dL_law_322 : decode cL_law 322 = .ok (.iload_n 3, 1) := by decide +kernel
theorem dL_law_323 : decode cL_law 323 = .ok (.iconst 3, 1) := by decide +kernel
theorem dL_law_324 : decode cL_law 324 = .ok (.irem, 1) := by decide +kernel
theorem dL_law_325 : decode cL_law 325 = .ok (.ifCond .ne 281, 3) := by decide +kernel
theorem dL_law_328 : decode cL_law 328 = .ok (.iload 5, 2) := by decide +kernel
theorem dL_law_330 : decode cL_law 330 = .ok (.bipush 10, 2) := by decide +kernel
theorem dL_law_332 : decode cL_law 332 = .ok (.if_icmp .ge 274, 3) := by decide +kernel
theorem dL_law_335 : decode cL_law 335 = .ok (.bipush 50, 2) := by decide +kernel
theorem dL_law_337 : decode cL_law 337 = .ok (.iload 4, 2) := by decide +kernel
theorem dL_law_339 : decode cL_law 339 = .ok (.iconst 2, 1) := by decide +kernel
theorem dL_law_340 : decode cL_law 340 = .ok (.ishr, 1) := by decide +kernel
theorem dL_law_341 : decode cL_law 341 = .ok (.bipush 50, 2) := by decide +kernel
theorem dL_law_343 : decode cL_law 343 = .ok (.invokestatic 15, 3) := by decide +kernel
theorem dL_law_346 : decode cL_law 346 = .ok (.iadd, 1) := by decide +kernel
theorem dL_law_347 : decode cL_law 347 = .ok (.istore 14, 2) := by decide +kernel
theorem dL_law_349 : decode cL_law 349 = .ok (.iload 4, 2) := by decide +kernel
theorem dL_law_351 : decode cL_law 351 = .ok (.iconst 2, 1) := by decide +kernel
theorem dL_law_352 : decode cL_law 352 = .ok (.invokestatic 15, 3) := by decide +kernel
theorem dL_law_355 : decode cL_law 355 = .ok (.ifCond .ne 7, 3) := by decide +kernel
theorem dL_law_358 : decode cL_law 358 = .ok (.iconst 0, 1) := by decide +kernel
theorem dL_law_359 : decode cL_law 359 = .ok (.goto 12, 3) := by decide +kernel
theorem dL_law_362 : decode cL_law 362 = .ok (.iload 4, 2) := by decide +kernel
theorem dL_law_364 : decode cL_law 364 = .ok (.iconst 3, 1) := by decide +kernel
theorem dL_law_365 : decode cL_law 365 = .ok (.ishr, 1) := by decide +kernel
theorem dL_law_366 : decode cL_law 366 = .ok (.bipush 31, 2) := by decide +kernel
theorem dL_law_368 : decode cL_law 368 = .ok (.invokestatic 15, 3) := by decide +kernel
theorem dL_law_371 : decode cL_law 371 = .ok (.istore 15, 2) := by decide +kernel
theorem dL_law_373 : decode cL_law 373 = .ok (.iconst 1, 1) := by decide +kernel
theorem dL_law_374 : decode cL_law 374 = .ok (.iload 4, 2) := by decide +kernel
theorem dL_law_376 : decode cL_law 376 = .ok (.iconst 1, 1) := by decide +kernel
theorem dL_law_377 : decode cL_law 377 = .ok (.ishr, 1) := by decide +kernel
theorem dL_law_378 : decode cL_law 378 = .ok (.sipush 999, 3) := by decide +kernel
theorem dL_law_381 : decode cL_law 381 = .ok (.invokestatic 15, 3) := by decide +kernel
theorem dL_law_384 : decode cL_law 384 = .ok (.iadd, 1) := by decide +kernel
theorem dL_law_385 : decode cL_law 385 = .ok (.istore 16, 2) := by decide +kernel
theorem dL_law_387 : decode cL_law 387 = .ok (.aload_n 1, 1) := by decide +kernel
theorem dL_law_388 : decode cL_law 388 = .ok (.iload 14, 2) := by decide +kernel
theorem dL_law_390 : decode cL_law 390 = .ok (.iload 16, 2) := by decide +kernel
theorem dL_law_392 : decode cL_law 392 = .ok (.iload 15, 2) := by decide +kernel
theorem dL_law_394 : decode cL_law 394 = .ok (.invokevirtual 125, 3) := by decide +kernel

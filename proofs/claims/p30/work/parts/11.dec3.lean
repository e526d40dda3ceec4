theorem dL_isSound_260 : decode cL_isSound 260 = .ok (.if_icmp .ne 7, 3) := by decide +kernel
theorem dL_isSound_263 : decode cL_isSound 263 = .ok (.iconst 1, 1) := by decide +kernel
theorem dL_isSound_264 : decode cL_isSound 264 = .ok (.goto 4, 3) := by decide +kernel
theorem dL_isSound_267 : decode cL_isSound 267 = .ok (.iconst 0, 1) := by decide +kernel
theorem dL_isSound_268 : decode cL_isSound 268 = .ok (.istore 9, 2) := by decide +kernel
theorem dL_isSound_270 : decode cL_isSound 270 = .ok (.iinc 10 1, 3) := by decide +kernel
theorem dL_isSound_273 : decode cL_isSound 273 = .ok (.goto (-185), 3) := by decide +kernel
theorem dL_isSound_276 : decode cL_isSound 276 = .ok (.iload 9, 2) := by decide +kernel
theorem dL_isSound_278 : decode cL_isSound 278 = .ok (.ifCond .eq 81, 3) := by decide +kernel
theorem dL_isSound_281 : decode cL_isSound 281 = .ok (.iload_n 1, 1) := by decide +kernel
theorem dL_isSound_282 : decode cL_isSound 282 = .ok (.aload_n 0, 1) := by decide +kernel
theorem dL_isSound_283 : decode cL_isSound 283 = .ok (.bipush 10, 2) := by decide +kernel
theorem dL_isSound_285 : decode cL_isSound 285 = .ok (.invokestatic 92, 3) := by decide +kernel
theorem dL_isSound_288 : decode cL_isSound 288 = .ok (.if_icmp .ne 71, 3) := by decide +kernel
theorem dL_isSound_291 : decode cL_isSound 291 = .ok (.iload_n 2, 1) := by decide +kernel
theorem dL_isSound_292 : decode cL_isSound 292 = .ok (.aload_n 0, 1) := by decide +kernel
theorem dL_isSound_293 : decode cL_isSound 293 = .ok (.bipush 11, 2) := by decide +kernel
theorem dL_isSound_295 : decode cL_isSound 295 = .ok (.invokestatic 92, 3) := by decide +kernel
theorem dL_isSound_298 : decode cL_isSound 298 = .ok (.if_icmp .ne 61, 3) := by decide +kernel
theorem dL_isSound_301 : decode cL_isSound 301 = .ok (.iload_n 3, 1) := by decide +kernel
theorem dL_isSound_302 : decode cL_isSound 302 = .ok (.aload_n 0, 1) := by decide +kernel
theorem dL_isSound_303 : decode cL_isSound 303 = .ok (.bipush 13, 2) := by decide +kernel
theorem dL_isSound_305 : decode cL_isSound 305 = .ok (.invokestatic 92, 3) := by decide +kernel
theorem dL_isSound_308 : decode cL_isSound 308 = .ok (.if_icmp .ne 51, 3) := by decide +kernel
theorem dL_isSound_311 : decode cL_isSound 311 = .ok (.iload 4, 2) := by decide +kernel
theorem dL_isSound_313 : decode cL_isSound 313 = .ok (.aload_n 0, 1) := by decide +kernel
theorem dL_isSound_314 : decode cL_isSound 314 = .ok (.bipush 14, 2) := by decide +kernel
theorem dL_isSound_316 : decode cL_isSound 316 = .ok (.invokestatic 92, 3) := by decide +kernel
theorem dL_isSound_319 : decode cL_isSound 319 = .ok (.if_icmp .ne 40, 3) := by decide +kernel
theorem dL_isSound_322 : decode cL_isSound 322 = .ok (.iload 6, 2) := by decide +kernel
theorem dL_isSound_324 : decode cL_isSound 324 = .ok (.aload_n 0, 1) := by decide +kernel
theorem dL_isSound_325 : decode cL_isSound 325 = .ok (.bipush 16, 2) := by decide +kernel
theorem dL_isSound_327 : decode cL_isSound 327 = .ok (.invokestatic 92, 3) := by decide +kernel
theorem dL_isSound_330 : decode cL_isSound 330 = .ok (.if_icmp .ne 29, 3) := by decide +kernel
theorem dL_isSound_333 : decode cL_isSound 333 = .ok (.iload 7, 2) := by decide +kernel
theorem dL_isSound_335 : decode cL_isSound 335 = .ok (.iload 8, 2) := by decide +kernel
theorem dL_isSound_337 : decode cL_isSound 337 = .ok (.if_icmp .ne 22, 3) := by decide +kernel
theorem dL_isSound_340 : decode cL_isSound 340 = .ok (.aload_n 0, 1) := by decide +kernel
theorem dL_isSound_341 : decode cL_isSound 341 = .ok (.aload_n 0, 1) := by decide +kernel
theorem dL_isSound_342 : decode cL_isSound 342 = .ok (.iconst 0, 1) := by decide +kernel
theorem dL_isSound_343 : decode cL_isSound 343 = .ok (.invokestatic 92, 3) := by decide +kernel
theorem dL_isSound_346 : decode cL_isSound 346 = .ok (.iconst 0, 1) := by decide +kernel
theorem dL_isSound_347 : decode cL_isSound 347 = .ok (.invokestatic 99, 3) := by decide +kernel
theorem dL_isSound_350 : decode cL_isSound 350 = .ok (.bipush (-11), 2) := by decide +kernel
theorem dL_isSound_352 : decode cL_isSound 352 = .ok (.if_icmp .ne 7, 3) := by decide +kernel
theorem dL_isSound_355 : decode cL_isSound 355 = .ok (.iconst 1, 1) := by decide +kernel
theorem dL_isSound_356 : decode cL_isSound 356 = .ok (.goto 4, 3) := by decide +kernel
theorem dL_isSound_359 : decode cL_isSound 359 = .ok (.iconst 0, 1) := by decide +kernel
theorem dL_isSound_360 : decode cL_isSound 360 = .ok (.istore 9, 2) := by decide +kernel
theorem dL_isSound_362 : decode cL_isSound 362 = .ok (.iconst 0, 1) := by decide +kernel
theorem dL_isSound_363 : decode cL_isSound 363 = .ok (.istore 10, 2) := by decide +kernel
theorem dL_isSound_365 : decode cL_isSound 365 = .ok (.iconst 0, 1) := by decide +kernel
theorem dL_isSound_366 : decode cL_isSound 366 = .ok (.istore 11, 2) := by decide +kernel
theorem dL_isSound_368 : decode cL_isSound 368 = .ok (.iload 11, 2) := by decide +kernel
theorem dL_isSound_370 : decode cL_isSound 370 = .ok (.aload_n 0, 1) := by decide +kernel
theorem dL_isSound_371 : decode cL_isSound 371 = .ok (.iconst 1, 1) := by decide +kernel
theorem dL_isSound_372 : decode cL_isSound 372 = .ok (.invokestatic 92, 3) := by decide +kernel
theorem dL_isSound_375 : decode cL_isSound 375 = .ok (.if_icmp .ge 124, 3) := by decide +kernel
theorem dL_isSound_378 : decode cL_isSound 378 = .ok (.iload 9, 2) := by decide +kernel
theorem dL_isSound_380 : decode cL_isSound 380 = .ok (.ifCond .eq 119, 3) := by decide +kernel
theorem dL_isSound_383 : decode cL_isSound 383 = .ok (.aload_n 0, 1) := by decide +kernel
theorem dL_isSound_384 : decode cL_isSound 384 = .ok (.iload 11, 2) := by decide +kernel
theorem dL_isSound_386 : decode cL_isSound 386 = .ok (.iconst 2, 1) := by decide +kernel
theorem dL_isSound_387 : decode cL_isSound 387 = .ok (.invokestatic 106, 3) := by decide +kernel
theorem dL_isSound_390 : decode cL_isSound 390 = .ok (.istore 12, 2) := by decide +kernel
theorem dL_isSound_392 : decode cL_isSound 392 = .ok (.iload 10, 2) := by decide +kernel
theorem dL_isSound_394 : decode cL_isSound 394 = .ok (.aload_n 0, 1) := by decide +kernel
theorem dL_isSound_395 : decode cL_isSound 395 = .ok (.iload 11, 2) := by decide +kernel
theorem dL_isSound_397 : decode cL_isSound 397 = .ok (.iconst 3, 1) := by decide +kernel
theorem dL_isSound_398 : decode cL_isSound 398 = .ok (.invokestatic 106, 3) := by decide +kernel
theorem dL_isSound_401 : decode cL_isSound 401 = .ok (.iadd, 1) := by decide +kernel
theorem dL_isSound_402 : decode cL_isSound 402 = .ok (.istore 10, 2) := by decide +kernel
theorem dL_isSound_404 : decode cL_isSound 404 = .ok (.iload 12, 2) := by decide +kernel
theorem dL_isSound_406 : decode cL_isSound 406 = .ok (.iconst 1, 1) := by decide +kernel
theorem dL_isSound_407 : decode cL_isSound 407 = .ok (.if_icmp .eq 13, 3) := by decide +kernel
theorem dL_isSound_410 : decode cL_isSound 410 = .ok (.aload_n 0, 1) := by decide +kernel
theorem dL_isSound_411 : decode cL_isSound 411 = .ok (.iload 11, 2) := by decide +kernel
theorem dL_isSound_413 : decode cL_isSound 413 = .ok (.iconst 3, 1) := by decide +kernel
theorem dL_isSound_414 : decode cL_isSound 414 = .ok (.invokestatic 106, 3) := by decide +kernel
theorem dL_isSound_417 : decode cL_isSound 417 = .ok (.ifCond .ne 73, 3) := by decide +kernel
theorem dL_isSound_420 : decode cL_isSound 420 = .ok (.iload 12, 2) := by decide +kernel
theorem dL_isSound_422 : decode cL_isSound 422 = .ok (.iconst 2, 1) := by decide +kernel
theorem dL_isSound_423 : decode cL_isSound 423 = .ok (.if_icmp .eq 9, 3) := by decide +kernel
theorem dL_isSound_426 : decode cL_isSound 426 = .ok (.iload 12, 2) := by decide +kernel
theorem dL_isSound_428 : decode cL_isSound 428 = .ok (.iconst 3, 1) := by decide +kernel
theorem dL_isSound_429 : decode cL_isSound 429 = .ok (.if_icmp .ne 7, 3) := by decide +kernel
theorem dL_isSound_432 : decode cL_isSound 432 = .ok (.iconst 1, 1) := by decide +kernel
theorem dL_isSound_433 : decode cL_isSound 433 = .ok (.goto 4, 3) := by decide +kernel
theorem dL_isSound_436 : decode cL_isSound 436 = .ok (.iconst 0, 1) := by decide +kernel
theorem dL_isSound_437 : decode cL_isSound 437 = .ok (.aload_n 0, 1) := by decide +kernel
theorem dL_isSound_438 : decode cL_isSound 438 = .ok (.iload 11, 2) := by decide +kernel
theorem dL_isSound_440 : decode cL_isSound 440 = .ok (.iconst 5, 1) := by decide +kernel
theorem dL_isSound_441 : decode cL_isSound 441 = .ok (.invokestatic 106, 3) := by decide +kernel
theorem dL_isSound_444 : decode cL_isSound 444 = .ok (.ifCond .lt 7, 3) := by decide +kernel
theorem dL_isSound_447 : decode cL_isSound 447 = .ok (.iconst 1, 1) := by decide +kernel
theorem dL_isSound_448 : decode cL_isSound 448 = .ok (.goto 4, 3) := by decide +kernel
theorem dL_isSound_451 : decode cL_isSound 451 = .ok (.iconst 0, 1) := by decide +kernel
theorem dL_isSound_452 : decode cL_isSound 452 = .ok (.if_icmp .ne 38, 3) := by decide +kernel
theorem dL_isSound_455 : decode cL_isSound 455 = .ok (.iload 12, 2) := by decide +kernel
theorem dL_isSound_457 : decode cL_isSound 457 = .ok (.ifCond .eq 13, 3) := by decide +kernel
theorem dL_isSound_460 : decode cL_isSound 460 = .ok (.aload_n 0, 1) := by decide +kernel
theorem dL_isSound_461 : decode cL_isSound 461 = .ok (.iload 11, 2) := by decide +kernel
theorem dL_isSound_463 : decode cL_isSound 463 = .ok (.invokestatic 108, 3) := by decide +kernel
theorem dL_isSound_466 : decode cL_isSound 466 = .ok (.iconst 1, 1) := by decide +kernel
theorem dL_isSound_467 : decode cL_isSound 467 = .ok (.if_icmp .ne 23, 3) := by decide +kernel
theorem dL_isSound_470 : decode cL_isSound 470 = .ok (.aload_n 0, 1) := by decide +kernel
theorem dL_isSound_471 : decode cL_isSound 471 = .ok (.iload 11, 2) := by decide +kernel
theorem dL_isSound_473 : decode cL_isSound 473 = .ok (.iconst 4, 1) := by decide +kernel
theorem dL_isSound_474 : decode cL_isSound 474 = .ok (.invokestatic 106, 3) := by decide +kernel
theorem dL_isSound_477 : decode cL_isSound 477 = .ok (.aload_n 0, 1) := by decide +kernel
theorem dL_isSound_478 : decode cL_isSound 478 = .ok (.bipush 8, 2) := by decide +kernel
theorem dL_isSound_480 : decode cL_isSound 480 = .ok (.invokestatic 92, 3) := by decide +kernel
theorem dL_isSound_483 : decode cL_isSound 483 = .ok (.if_icmp .gt 7, 3) := by decide +kernel
theorem dL_isSound_486 : decode cL_isSound 486 = .ok (.iconst 1, 1) := by decide +kernel
theorem dL_isSound_487 : decode cL_isSound 487 = .ok (.goto 4, 3) := by decide +kernel
theorem dL_isSound_490 : decode cL_isSound 490 = .ok (.iconst 0, 1) := by decide +kernel
theorem dL_isSound_491 : decode cL_isSound 491 = .ok (.istore 9, 2) := by decide +kernel
theorem dL_isSound_493 : decode cL_isSound 493 = .ok (.iinc 11 1, 3) := by decide +kernel
theorem dL_isSound_496 : decode cL_isSound 496 = .ok (.goto (-128), 3) := by decide +kernel
theorem dL_isSound_499 : decode cL_isSound 499 = .ok (.iconst 0, 1) := by decide +kernel
theorem dL_isSound_500 : decode cL_isSound 500 = .ok (.istore 11, 2) := by decide +kernel
theorem dL_isSound_502 : decode cL_isSound 502 = .ok (.iload 11, 2) := by decide +kernel
theorem dL_isSound_504 : decode cL_isSound 504 = .ok (.iload 5, 2) := by decide +kernel
theorem dL_isSound_506 : decode cL_isSound 506 = .ok (.if_icmp .ge 130, 3) := by decide +kernel
theorem dL_isSound_509 : decode cL_isSound 509 = .ok (.iload 9, 2) := by decide +kernel
theorem dL_isSound_511 : decode cL_isSound 511 = .ok (.ifCond .eq 125, 3) := by decide +kernel
theorem dL_isSound_514 : decode cL_isSound 514 = .ok (.aload_n 0, 1) := by decide +kernel
theorem dL_isSound_515 : decode cL_isSound 515 = .ok (.iload 11, 2) := by decide +kernel
theorem dL_isSound_517 : decode cL_isSound 517 = .ok (.invokestatic 110, 3) := by decide +kernel
theorem dL_isSound_520 : decode cL_isSound 520 = .ok (.istore 12, 2) := by decide +kernel
theorem dL_isSound_522 : decode cL_isSound 522 = .ok (.aload_n 0, 1) := by decide +kernel
theorem dL_isSound_523 : decode cL_isSound 523 = .ok (.iload 11, 2) := by decide +kernel
theorem dL_isSound_525 : decode cL_isSound 525 = .ok (.iconst 1, 1) := by decide +kernel
theorem dL_isSound_526 : decode cL_isSound 526 = .ok (.iadd, 1) := by decide +kernel
theorem dL_isSound_527 : decode cL_isSound 527 = .ok (.invokestatic 110, 3) := by decide +kernel
theorem dL_isSound_530 : decode cL_isSound 530 = .ok (.istore 13, 2) := by decide +kernel
theorem dL_isSound_532 : decode cL_isSound 532 = .ok (.iload 12, 2) := by decide +kernel
theorem dL_isSound_534 : decode cL_isSound 534 = .ok (.ifCond .lt 93, 3) := by decide +kernel
theorem dL_isSound_537 : decode cL_isSound 537 = .ok (.aload_n 0, 1) := by decide +kernel
theorem dL_isSound_538 : decode cL_isSound 538 = .ok (.iload 12, 2) := by decide +kernel
theorem dL_isSound_540 : decode cL_isSound 540 = .ok (.iconst 2, 1) := by decide +kernel
theorem dL_isSound_541 : decode cL_isSound 541 = .ok (.invokestatic 106, 3) := by decide +kernel
theorem dL_isSound_544 : decode cL_isSound 544 = .ok (.iconst 2, 1) := by decide +kernel
theorem dL_isSound_545 : decode cL_isSound 545 = .ok (.if_icmp .ge 82, 3) := by decide +kernel
theorem dL_isSound_548 : decode cL_isSound 548 = .ok (.iload 13, 2) := by decide +kernel
theorem dL_isSound_550 : decode cL_isSound 550 = .ok (.iconst (-1), 1) := by decide +kernel
theorem dL_isSound_551 : decode cL_isSound 551 = .ok (.if_icmp .ne 7, 3) := by decide +kernel
theorem dL_isSound_554 : decode cL_isSound 554 = .ok (.iconst 1, 1) := by decide +kernel
theorem dL_isSound_555 : decode cL_isSound 555 = .ok (.goto 4, 3) := by decide +kernel
theorem dL_isSound_558 : decode cL_isSound 558 = .ok (.iconst 0, 1) := by decide +kernel
theorem dL_isSound_559 : decode cL_isSound 559 = .ok (.iload 11, 2) := by decide +kernel
theorem dL_isSound_561 : decode cL_isSound 561 = .ok (.iload 5, 2) := by decide +kernel
theorem dL_isSound_563 : decode cL_isSound 563 = .ok (.iconst 1, 1) := by decide +kernel
theorem dL_isSound_564 : decode cL_isSound 564 = .ok (.isub, 1) := by decide +kernel
theorem dL_isSound_565 : decode cL_isSound 565 = .ok (.if_icmp .ne 7, 3) := by decide +kernel
theorem dL_isSound_568 : decode cL_isSound 568 = .ok (.iconst 1, 1) := by decide +kernel
theorem dL_isSound_569 : decode cL_isSound 569 = .ok (.goto 4, 3) := by decide +kernel
theorem dL_isSound_572 : decode cL_isSound 572 = .ok (.iconst 0, 1) := by decide +kernel
theorem dL_isSound_573 : decode cL_isSound 573 = .ok (.if_icmp .ne 54, 3) := by decide +kernel
theorem dL_isSound_576 : decode cL_isSound 576 = .ok (.iload 13, 2) := by decide +kernel
theorem dL_isSound_578 : decode cL_isSound 578 = .ok (.iconst (-1), 1) := by decide +kernel
theorem dL_isSound_579 : decode cL_isSound 579 = .ok (.if_icmp .eq 44, 3) := by decide +kernel
theorem dL_isSound_582 : decode cL_isSound 582 = .ok (.aload_n 0, 1) := by decide +kernel
theorem dL_isSound_583 : decode cL_isSound 583 = .ok (.iload 13, 2) := by decide +kernel
theorem dL_isSound_585 : decode cL_isSound 585 = .ok (.iconst 1, 1) := by decide +kernel
theorem dL_isSound_586 : decode cL_isSound 586 = .ok (.invokestatic 106, 3) := by decide +kernel
theorem dL_isSound_589 : decode cL_isSound 589 = .ok (.aload_n 0, 1) := by decide +kernel
theorem dL_isSound_590 : decode cL_isSound 590 = .ok (.iload 12, 2) := by decide +kernel
theorem dL_isSound_592 : decode cL_isSound 592 = .ok (.iconst 1, 1) := by decide +kernel
theorem dL_isSound_593 : decode cL_isSound 593 = .ok (.invokestatic 106, 3) := by decide +kernel
theorem dL_isSound_596 : decode cL_isSound 596 = .ok (.if_icmp .gt 27, 3) := by decide +kernel
theorem dL_isSound_599 : decode cL_isSound 599 = .ok (.aload_n 0, 1) := by decide +kernel
theorem dL_isSound_600 : decode cL_isSound 600 = .ok (.iload 13, 2) := by decide +kernel
theorem dL_isSound_602 : decode cL_isSound 602 = .ok (.iconst 1, 1) := by decide +kernel
theorem dL_isSound_603 : decode cL_isSound 603 = .ok (.invokestatic 106, 3) := by decide +kernel
theorem dL_isSound_606 : decode cL_isSound 606 = .ok (.aload_n 0, 1) := by decide +kernel
theorem dL_isSound_607 : decode cL_isSound 607 = .ok (.iload 12, 2) := by decide +kernel
theorem dL_isSound_609 : decode cL_isSound 609 = .ok (.iconst 1, 1) := by decide +kernel
theorem dL_isSound_610 : decode cL_isSound 610 = .ok (.invokestatic 106, 3) := by decide +kernel
theorem dL_isSound_613 : decode cL_isSound 613 = .ok (.if_icmp .ne 14, 3) := by decide +kernel
theorem dL_isSound_616 : decode cL_isSound 616 = .ok (.iload 13, 2) := by decide +kernel
theorem dL_isSound_618 : decode cL_isSound 618 = .ok (.iload 12, 2) := by decide +kernel
theorem dL_isSound_620 : decode cL_isSound 620 = .ok (.if_icmp .le 7, 3) := by decide +kernel
theorem dL_isSound_623 : decode cL_isSound 623 = .ok (.iconst 1, 1) := by decide +kernel
theorem dL_isSound_624 : decode cL_isSound 624 = .ok (.goto 4, 3) := by decide +kernel
theorem dL_isSound_627 : decode cL_isSound 627 = .ok (.iconst 0, 1) := by decide +kernel
theorem dL_isSound_628 : decode cL_isSound 628 = .ok (.istore 9, 2) := by decide +kernel
theorem dL_isSound_630 : decode cL_isSound 630 = .ok (.iinc 11 1, 3) := by decide +kernel
theorem dL_isSound_633 : decode cL_isSound 633 = .ok (.goto (-131), 3) := by decide +kernel
theorem dL_isSound_636 : decode cL_isSound 636 = .ok (.iconst 0, 1) := by decide +kernel
theorem dL_isSound_637 : decode cL_isSound 637 = .ok (.istore 11, 2) := by decide +kernel
theorem dL_isSound_639 : decode cL_isSound 639 = .ok (.iconst 0, 1) := by decide +kernel
theorem dL_isSound_640 : decode cL_isSound 640 = .ok (.istore 12, 2) := by decide +kernel
theorem dL_isSound_642 : decode cL_isSound 642 = .ok (.iload 12, 2) := by decide +kernel
theorem dL_isSound_644 : decode cL_isSound 644 = .ok (.aload_n 0, 1) := by decide +kernel
theorem dL_isSound_645 : decode cL_isSound 645 = .ok (.iconst 2, 1) := by decide +kernel
theorem dL_isSound_646 : decode cL_isSound 646 = .ok (.invokestatic 92, 3) := by decide +kernel
theorem dL_isSound_649 : decode cL_isSound 649 = .ok (.if_icmp .ge 102, 3) := by decide +kernel
theorem dL_isSound_652 : decode cL_isSound 652 = .ok (.iload 9, 2) := by decide +kernel
theorem dL_isSound_654 : decode cL_isSound 654 = .ok (.ifCond .eq 97, 3) := by decide +kernel
theorem dL_isSound_657 : decode cL_isSound 657 = .ok (.iload 11, 2) := by decide +kernel
theorem dL_isSound_659 : decode cL_isSound 659 = .ok (.aload_n 0, 1) := by decide +kernel
theorem dL_isSound_660 : decode cL_isSound 660 = .ok (.iload 12, 2) := by decide +kernel
theorem dL_isSound_662 : decode cL_isSound 662 = .ok (.iconst 3, 1) := by decide +kernel
theorem dL_isSound_663 : decode cL_isSound 663 = .ok (.invokestatic 112, 3) := by decide +kernel
theorem dL_isSound_666 : decode cL_isSound 666 = .ok (.ifCond .le 7, 3) := by decide +kernel
theorem dL_isSound_669 : decode cL_isSound 669 = .ok (.iconst 1, 1) := by decide +kernel
theorem dL_isSound_670 : decode cL_isSound 670 = .ok (.goto 4, 3) := by decide +kernel
theorem dL_isSound_673 : decode cL_isSound 673 = .ok (.iconst 0, 1) := by decide +kernel
theorem dL_isSound_674 : decode cL_isSound 674 = .ok (.iadd, 1) := by decide +kernel
theorem dL_isSound_675 : decode cL_isSound 675 = .ok (.istore 11, 2) := by decide +kernel
theorem dL_isSound_677 : decode cL_isSound 677 = .ok (.aload_n 0, 1) := by decide +kernel
theorem dL_isSound_678 : decode cL_isSound 678 = .ok (.iload 12, 2) := by decide +kernel
theorem dL_isSound_680 : decode cL_isSound 680 = .ok (.iconst 3, 1) := by decide +kernel
theorem dL_isSound_681 : decode cL_isSound 681 = .ok (.invokestatic 112, 3) := by decide +kernel
theorem dL_isSound_684 : decode cL_isSound 684 = .ok (.ifCond .lt 58, 3) := by decide +kernel
theorem dL_isSound_687 : decode cL_isSound 687 = .ok (.aload_n 0, 1) := by decide +kernel
theorem dL_isSound_688 : decode cL_isSound 688 = .ok (.iload 12, 2) := by decide +kernel
theorem dL_isSound_690 : decode cL_isSound 690 = .ok (.iconst 3, 1) := by decide +kernel
theorem dL_isSound_691 : decode cL_isSound 691 = .ok (.invokestatic 112, 3) := by decide +kernel
theorem dL_isSound_694 : decode cL_isSound 694 = .ok (.aload_n 0, 1) := by decide +kernel
theorem dL_isSound_695 : decode cL_isSound 695 = .ok (.iload 12, 2) := by decide +kernel
theorem dL_isSound_697 : decode cL_isSound 697 = .ok (.iconst 2, 1) := by decide +kernel
theorem dL_isSound_698 : decode cL_isSound 698 = .ok (.invokestatic 112, 3) := by decide +kernel
theorem dL_isSound_701 : decode cL_isSound 701 = .ok (.if_icmp .gt 41, 3) := by decide +kernel
theorem dL_isSound_704 : decode cL_isSound 704 = .ok (.aload_n 0, 1) := by decide +kernel
theorem dL_isSound_705 : decode cL_isSound 705 = .ok (.iload 12, 2) := by decide +kernel
theorem dL_isSound_707 : decode cL_isSound 707 = .ok (.iconst 0, 1) := by decide +kernel
theorem dL_isSound_708 : decode cL_isSound 708 = .ok (.invokestatic 112, 3) := by decide +kernel
theorem dL_isSound_711 : decode cL_isSound 711 = .ok (.aload_n 0, 1) := by decide +kernel
theorem dL_isSound_712 : decode cL_isSound 712 = .ok (.iload 12, 2) := by decide +kernel
theorem dL_isSound_714 : decode cL_isSound 714 = .ok (.iconst 1, 1) := by decide +kernel
theorem dL_isSound_715 : decode cL_isSound 715 = .ok (.invokestatic 112, 3) := by decide +kernel
theorem dL_isSound_718 : decode cL_isSound 718 = .ok (.if_icmp .eq 24, 3) := by decide +kernel
theorem dL_isSound_721 : decode cL_isSound 721 = .ok (.aload_n 0, 1) := by decide +kernel
theorem dL_isSound_722 : decode cL_isSound 722 = .ok (.iload 12, 2) := by decide +kernel
theorem dL_isSound_724 : decode cL_isSound 724 = .ok (.iconst 5, 1) := by decide +kernel
theorem dL_isSound_725 : decode cL_isSound 725 = .ok (.invokestatic 112, 3) := by decide +kernel
theorem dL_isSound_728 : decode cL_isSound 728 = .ok (.aload_n 0, 1) := by decide +kernel
theorem dL_isSound_729 : decode cL_isSound 729 = .ok (.iload 12, 2) := by decide +kernel
theorem dL_isSound_731 : decode cL_isSound 731 = .ok (.iconst 4, 1) := by decide +kernel
theorem dL_isSound_732 : decode cL_isSound 732 = .ok (.invokestatic 112, 3) := by decide +kernel
theorem dL_isSound_735 : decode cL_isSound 735 = .ok (.if_icmp .gt 7, 3) := by decide +kernel
theorem dL_isSound_738 : decode cL_isSound 738 = .ok (.iconst 1, 1) := by decide +kernel
theorem dL_isSound_739 : decode cL_isSound 739 = .ok (.goto 4, 3) := by decide +kernel
theorem dL_isSound_742 : decode cL_isSound 742 = .ok (.iconst 0, 1) := by decide +kernel
theorem dL_isSound_743 : decode cL_isSound 743 = .ok (.istore 9, 2) := by decide +kernel
theorem dL_isSound_745 : decode cL_isSound 745 = .ok (.iinc 12 1, 3) := by decide +kernel
theorem dL_isSound_748 : decode cL_isSound 748 = .ok (.goto (-106), 3) := by decide +kernel
theorem dL_isSound_751 : decode cL_isSound 751 = .ok (.iload 9, 2) := by decide +kernel
theorem dL_isSound_753 : decode cL_isSound 753 = .ok (.ifCond .eq 63, 3) := by decide +kernel
theorem dL_isSound_756 : decode cL_isSound 756 = .ok (.iload 10, 2) := by decide +kernel
theorem dL_isSound_758 : decode cL_isSound 758 = .ok (.iload_n 2, 1) := by decide +kernel
theorem dL_isSound_759 : decode cL_isSound 759 = .ok (.if_icmp .ne 57, 3) := by decide +kernel
theorem dL_isSound_762 : decode cL_isSound 762 = .ok (.iload 11, 2) := by decide +kernel
theorem dL_isSound_764 : decode cL_isSound 764 = .ok (.aload_n 0, 1) := by decide +kernel
theorem dL_isSound_765 : decode cL_isSound 765 = .ok (.iconst 3, 1) := by decide +kernel
theorem dL_isSound_766 : decode cL_isSound 766 = .ok (.invokestatic 92, 3) := by decide +kernel
theorem dL_isSound_769 : decode cL_isSound 769 = .ok (.if_icmp .ne 47, 3) := by decide +kernel
theorem dL_isSound_772 : decode cL_isSound 772 = .ok (.aload_n 0, 1) := by decide +kernel
theorem dL_isSound_773 : decode cL_isSound 773 = .ok (.iload 5, 2) := by decide +kernel
theorem dL_isSound_775 : decode cL_isSound 775 = .ok (.invokestatic 110, 3) := by decide +kernel
theorem dL_isSound_778 : decode cL_isSound 778 = .ok (.iconst (-1), 1) := by decide +kernel
theorem dL_isSound_779 : decode cL_isSound 779 = .ok (.if_icmp .ne 37, 3) := by decide +kernel
theorem dL_isSound_782 : decode cL_isSound 782 = .ok (.aload_n 0, 1) := by decide +kernel
theorem dL_isSound_783 : decode cL_isSound 783 = .ok (.aload_n 0, 1) := by decide +kernel
theorem dL_isSound_784 : decode cL_isSound 784 = .ok (.iconst 1, 1) := by decide +kernel
theorem dL_isSound_785 : decode cL_isSound 785 = .ok (.invokestatic 92, 3) := by decide +kernel
theorem dL_isSound_788 : decode cL_isSound 788 = .ok (.iconst 0, 1) := by decide +kernel
theorem dL_isSound_789 : decode cL_isSound 789 = .ok (.invokestatic 106, 3) := by decide +kernel
theorem dL_isSound_792 : decode cL_isSound 792 = .ok (.bipush (-11), 2) := by decide +kernel
theorem dL_isSound_794 : decode cL_isSound 794 = .ok (.if_icmp .ne 22, 3) := by decide +kernel
theorem dL_isSound_797 : decode cL_isSound 797 = .ok (.aload_n 0, 1) := by decide +kernel
theorem dL_isSound_798 : decode cL_isSound 798 = .ok (.aload_n 0, 1) := by decide +kernel
theorem dL_isSound_799 : decode cL_isSound 799 = .ok (.iconst 2, 1) := by decide +kernel
theorem dL_isSound_800 : decode cL_isSound 800 = .ok (.invokestatic 92, 3) := by decide +kernel
theorem dL_isSound_803 : decode cL_isSound 803 = .ok (.iconst 0, 1) := by decide +kernel
theorem dL_isSound_804 : decode cL_isSound 804 = .ok (.invokestatic 112, 3) := by decide +kernel
theorem dL_isSound_807 : decode cL_isSound 807 = .ok (.bipush (-11), 2) := by decide +kernel
theorem dL_isSound_809 : decode cL_isSound 809 = .ok (.if_icmp .ne 7, 3) := by decide +kernel
theorem dL_isSound_812 : decode cL_isSound 812 = .ok (.iconst 1, 1) := by decide +kernel
theorem dL_isSound_813 : decode cL_isSound 813 = .ok (.goto 4, 3) := by decide +kernel
theorem dL_isSound_816 : decode cL_isSound 816 = .ok (.iconst 0, 1) := by decide +kernel
theorem dL_isSound_817 : decode cL_isSound 817 = .ok (.ireturn, 1) := by decide +kernel
theorem dL_weeks_0 : decode cL_weeks 0 = .ok (.aload_n 0, 1) := by decide +kernel
theorem dL_weeks_1 : decode cL_weeks 1 = .ok (.bipush 8, 2) := by decide +kernel
theorem dL_weeks_3 : decode cL_weeks 3 = .ok (.invokestatic 92, 3) := by decide +kernel
theorem dL_weeks_6 : decode cL_weeks 6 = .ok (.istore 4, 2) := by decide +kernel
theorem dL_weeks_8 : decode cL_weeks 8 = .ok (.aload_n 0, 1) := by decide +kernel
theorem dL_weeks_9 : decode cL_weeks 9 = .ok (.iload_n 1, 1) := by decide +kernel
theorem dL_weeks_10 : decode cL_weeks 10 = .ok (.iload_n 2, 1) := by decide +kernel
theorem dL_weeks_11 : decode cL_weeks 11 = .ok (.invokestatic 114, 3) := by decide +kernel
theorem dL_weeks_14 : decode cL_weeks 14 = .ok (.istore 5, 2) := by decide +kernel
theorem dL_weeks_16 : decode cL_weeks 16 = .ok (.iload_n 2, 1) := by decide +kernel
theorem dL_weeks_17 : decode cL_weeks 17 = .ok (.aload_n 0, 1) := by decide +kernel
theorem dL_weeks_18 : decode cL_weeks 18 = .ok (.iconst 4, 1) := by decide +kernel
theorem dL_weeks_19 : decode cL_weeks 19 = .ok (.invokestatic 92, 3) := by decide +kernel
theorem dL_weeks_22 : decode cL_weeks 22 = .ok (.imul, 1) := by decide +kernel
theorem dL_weeks_23 : decode cL_weeks 23 = .ok (.istore 6, 2) := by decide +kernel
theorem dL_weeks_25 : decode cL_weeks 25 = .ok (.aload_n 0, 1) := by decide +kernel
theorem dL_weeks_26 : decode cL_weeks 26 = .ok (.iload_n 3, 1) := by decide +kernel
theorem dL_weeks_27 : decode cL_weeks 27 = .ok (.invokestatic 97, 3) := by decide +kernel
theorem dL_weeks_30 : decode cL_weeks 30 = .ok (.istore 7, 2) := by decide +kernel
theorem dL_weeks_32 : decode cL_weeks 32 = .ok (.iload 5, 2) := by decide +kernel
theorem dL_weeks_34 : decode cL_weeks 34 = .ok (.ifCond .ne 7, 3) := by decide +kernel
theorem dL_weeks_37 : decode cL_weeks 37 = .ok (.iconst 1, 1) := by decide +kernel
theorem dL_weeks_38 : decode cL_weeks 38 = .ok (.goto 4, 3) := by decide +kernel
theorem dL_weeks_41 : decode cL_weeks 41 = .ok (.iconst 0, 1) := by decide +kernel
theorem dL_weeks_42 : decode cL_weeks 42 = .ok (.aload_n 0, 1) := by decide +kernel
theorem dL_weeks_43 : decode cL_weeks 43 = .ok (.iload_n 1, 1) := by decide +kernel
theorem dL_weeks_44 : decode cL_weeks 44 = .ok (.iconst 0, 1) := by decide +kernel
theorem dL_weeks_45 : decode cL_weeks 45 = .ok (.invokestatic 99, 3) := by decide +kernel
theorem dL_weeks_48 : decode cL_weeks 48 = .ok (.iload 6, 2) := by decide +kernel
theorem dL_weeks_50 : decode cL_weeks 50 = .ok (.if_icmp .lt 7, 3) := by decide +kernel
theorem dL_weeks_53 : decode cL_weeks 53 = .ok (.iconst 1, 1) := by decide +kernel
theorem dL_weeks_54 : decode cL_weeks 54 = .ok (.goto 4, 3) := by decide +kernel
theorem dL_weeks_57 : decode cL_weeks 57 = .ok (.iconst 0, 1) := by decide +kernel
theorem dL_weeks_58 : decode cL_weeks 58 = .ok (.if_icmp .ne 35, 3) := by decide +kernel
theorem dL_weeks_61 : decode cL_weeks 61 = .ok (.iload 4, 2) := by decide +kernel
theorem dL_weeks_63 : decode cL_weeks 63 = .ok (.iload_n 3, 1) := by decide +kernel
theorem dL_weeks_64 : decode cL_weeks 64 = .ok (.iadd, 1) := by decide +kernel
theorem dL_weeks_65 : decode cL_weeks 65 = .ok (.bipush 39, 2) := by decide +kernel
theorem dL_weeks_67 : decode cL_weeks 67 = .ok (.if_icmp .le 7, 3) := by decide +kernel
theorem dL_weeks_70 : decode cL_weeks 70 = .ok (.iconst 1, 1) := by decide +kernel
theorem dL_weeks_71 : decode cL_weeks 71 = .ok (.goto 4, 3) := by decide +kernel
theorem dL_weeks_74 : decode cL_weeks 74 = .ok (.iconst 0, 1) := by decide +kernel
theorem dL_weeks_75 : decode cL_weeks 75 = .ok (.iload 7, 2) := by decide +kernel
theorem dL_weeks_77 : decode cL_weeks 77 = .ok (.iconst (-1), 1) := by decide +kernel
theorem dL_weeks_78 : decode cL_weeks 78 = .ok (.if_icmp .ne 7, 3) := by decide +kernel
theorem dL_weeks_81 : decode cL_weeks 81 = .ok (.iconst 1, 1) := by decide +kernel
theorem dL_weeks_82 : decode cL_weeks 82 = .ok (.goto 4, 3) := by decide +kernel
theorem dL_weeks_85 : decode cL_weeks 85 = .ok (.iconst 0, 1) := by decide +kernel
theorem dL_weeks_86 : decode cL_weeks 86 = .ok (.if_icmp .ne 7, 3) := by decide +kernel
theorem dL_weeks_89 : decode cL_weeks 89 = .ok (.iconst 1, 1) := by decide +kernel
theorem dL_weeks_90 : decode cL_weeks 90 = .ok (.goto 4, 3) := by decide +kernel
theorem dL_weeks_93 : decode cL_weeks 93 = .ok (.iconst 0, 1) := by decide +kernel
theorem dL_weeks_94 : decode cL_weeks 94 = .ok (.istore 8, 2) := by decide +kernel
theorem dL_weeks_96 : decode cL_weeks 96 = .ok (.iconst 0, 1) := by decide +kernel
theorem dL_weeks_97 : decode cL_weeks 97 = .ok (.istore 9, 2) := by decide +kernel
theorem dL_weeks_99 : decode cL_weeks 99 = .ok (.iload 9, 2) := by decide +kernel
theorem dL_weeks_101 : decode cL_weeks 101 = .ok (.iload_n 3, 1) := by decide +kernel
theorem dL_weeks_102 : decode cL_weeks 102 = .ok (.if_icmp .ge 113, 3) := by decide +kernel
theorem dL_weeks_105 : decode cL_weeks 105 = .ok (.aload_n 0, 1) := by decide +kernel
theorem dL_weeks_106 : decode cL_weeks 106 = .ok (.bipush 8, 2) := by decide +kernel
theorem dL_weeks_108 : decode cL_weeks 108 = .ok (.invokestatic 92, 3) := by decide +kernel
theorem dL_weeks_111 : decode cL_weeks 111 = .ok (.bipush 39, 2) := by decide +kernel
theorem dL_weeks_113 : decode cL_weeks 113 = .ok (.if_icmp .ge 102, 3) := by decide +kernel
theorem dL_weeks_116 : decode cL_weeks 116 = .ok (.iload 8, 2) := by decide +kernel
theorem dL_weeks_118 : decode cL_weeks 118 = .ok (.ifCond .eq 97, 3) := by decide +kernel
theorem dL_weeks_121 : decode cL_weeks 121 = .ok (.iload 9, 2) := by decide +kernel
theorem dL_weeks_123 : decode cL_weeks 123 = .ok (.iload 5, 2) := by decide +kernel
theorem dL_weeks_125 : decode cL_weeks 125 = .ok (.if_icmp .ne 7, 3) := by decide +kernel
theorem dL_weeks_128 : decode cL_weeks 128 = .ok (.iconst 1, 1) := by decide +kernel
theorem dL_weeks_129 : decode cL_weeks 129 = .ok (.goto 4, 3) := by decide +kernel
theorem dL_weeks_132 : decode cL_weeks 132 = .ok (.iconst 0, 1) := by decide +kernel
theorem dL_weeks_133 : decode cL_weeks 133 = .ok (.aload_n 0, 1) := by decide +kernel
theorem dL_weeks_134 : decode cL_weeks 134 = .ok (.iload_n 1, 1) := by decide +kernel
theorem dL_weeks_135 : decode cL_weeks 135 = .ok (.iconst 0, 1) := by decide +kernel
theorem dL_weeks_136 : decode cL_weeks 136 = .ok (.invokestatic 99, 3) := by decide +kernel
theorem dL_weeks_139 : decode cL_weeks 139 = .ok (.iload 6, 2) := by decide +kernel
theorem dL_weeks_141 : decode cL_weeks 141 = .ok (.if_icmp .lt 26, 3) := by decide +kernel
theorem dL_weeks_144 : decode cL_weeks 144 = .ok (.iload 5, 2) := by decide +kernel
theorem dL_weeks_146 : decode cL_weeks 146 = .ok (.iload 9, 2) := by decide +kernel
theorem dL_weeks_148 : decode cL_weeks 148 = .ok (.if_icmp .eq 15, 3) := by decide +kernel
theorem dL_weeks_151 : decode cL_weeks 151 = .ok (.iload 5, 2) := by decide +kernel
theorem dL_weeks_153 : decode cL_weeks 153 = .ok (.ifCond .lt 10, 3) := by decide +kernel
theorem dL_weeks_156 : decode cL_weeks 156 = .ok (.iload 5, 2) := by decide +kernel
theorem dL_weeks_158 : decode cL_weeks 158 = .ok (.iload 9, 2) := by decide +kernel
theorem dL_weeks_160 : decode cL_weeks 160 = .ok (.if_icmp .le 7, 3) := by decide +kernel
theorem dL_weeks_163 : decode cL_weeks 163 = .ok (.iconst 1, 1) := by decide +kernel
theorem dL_weeks_164 : decode cL_weeks 164 = .ok (.goto 4, 3) := by decide +kernel
theorem dL_weeks_167 : decode cL_weeks 167 = .ok (.iconst 0, 1) := by decide +kernel
theorem dL_weeks_168 : decode cL_weeks 168 = .ok (.if_icmp .eq 15, 3) := by decide +kernel
theorem dL_weeks_171 : decode cL_weeks 171 = .ok (.iload 5, 2) := by decide +kernel
theorem dL_weeks_173 : decode cL_weeks 173 = .ok (.ifCond .lt 14, 3) := by decide +kernel
theorem dL_weeks_176 : decode cL_weeks 176 = .ok (.iload 9, 2) := by decide +kernel
theorem dL_weeks_178 : decode cL_weeks 178 = .ok (.iload 5, 2) := by decide +kernel
theorem dL_weeks_180 : decode cL_weeks 180 = .ok (.if_icmp .le 7, 3) := by decide +kernel
theorem dL_weeks_183 : decode cL_weeks 183 = .ok (.iconst 1, 1) := by decide +kernel
theorem dL_weeks_184 : decode cL_weeks 184 = .ok (.goto 4, 3) := by decide +kernel
theorem dL_weeks_187 : decode cL_weeks 187 = .ok (.iconst 0, 1) := by decide +kernel
theorem dL_weeks_188 : decode cL_weeks 188 = .ok (.istore 8, 2) := by decide +kernel
theorem dL_weeks_190 : decode cL_weeks 190 = .ok (.iload 8, 2) := by decide +kernel
theorem dL_weeks_192 : decode cL_weeks 192 = .ok (.ifCond .eq 14, 3) := by decide +kernel
theorem dL_weeks_195 : decode cL_weeks 195 = .ok (.aload_n 0, 1) := by decide +kernel
theorem dL_weeks_196 : decode cL_weeks 196 = .ok (.invokestatic 116, 3) := by decide +kernel
theorem dL_weeks_199 : decode cL_weeks 199 = .ok (.ifCond .lt 7, 3) := by decide +kernel
theorem dL_weeks_202 : decode cL_weeks 202 = .ok (.iconst 1, 1) := by decide +kernel
theorem dL_weeks_203 : decode cL_weeks 203 = .ok (.goto 4, 3) := by decide +kernel
theorem dL_weeks_206 : decode cL_weeks 206 = .ok (.iconst 0, 1) := by decide +kernel
theorem dL_weeks_207 : decode cL_weeks 207 = .ok (.istore 8, 2) := by decide +kernel
theorem dL_weeks_209 : decode cL_weeks 209 = .ok (.iinc 9 1, 3) := by decide +kernel
theorem dL_weeks_212 : decode cL_weeks 212 = .ok (.goto (-113), 3) := by decide +kernel
theorem dL_weeks_215 : decode cL_weeks 215 = .ok (.iload 8, 2) := by decide +kernel
theorem dL_weeks_217 : decode cL_weeks 217 = .ok (.ifCond .eq 68, 3) := by decide +kernel
theorem dL_weeks_220 : decode cL_weeks 220 = .ok (.aload_n 0, 1) := by decide +kernel
theorem dL_weeks_221 : decode cL_weeks 221 = .ok (.bipush 8, 2) := by decide +kernel
theorem dL_weeks_223 : decode cL_weeks 223 = .ok (.invokestatic 92, 3) := by decide +kernel
theorem dL_weeks_226 : decode cL_weeks 226 = .ok (.iload 4, 2) := by decide +kernel
theorem dL_weeks_228 : decode cL_weeks 228 = .ok (.iload 9, 2) := by decide +kernel
theorem dL_weeks_230 : decode cL_weeks 230 = .ok (.iadd, 1) := by decide +kernel
theorem dL_weeks_231 : decode cL_weeks 231 = .ok (.if_icmp .ne 54, 3) := by decide +kernel
theorem dL_weeks_234 : decode cL_weeks 234 = .ok (.iload 9, 2) := by decide +kernel
theorem dL_weeks_236 : decode cL_weeks 236 = .ok (.iload_n 3, 1) := by decide +kernel
theorem dL_weeks_237 : decode cL_weeks 237 = .ok (.if_icmp .lt 21, 3) := by decide +kernel
theorem dL_weeks_240 : decode cL_weeks 240 = .ok (.iload 7, 2) := by decide +kernel
theorem dL_weeks_242 : decode cL_weeks 242 = .ok (.aload_n 0, 1) := by decide +kernel
theorem dL_weeks_243 : decode cL_weeks 243 = .ok (.bipush 10, 2) := by decide +kernel
theorem dL_weeks_245 : decode cL_weeks 245 = .ok (.invokestatic 92, 3) := by decide +kernel
theorem dL_weeks_248 : decode cL_weeks 248 = .ok (.aload_n 0, 1) := by decide +kernel
theorem dL_weeks_249 : decode cL_weeks 249 = .ok (.bipush 11, 2) := by decide +kernel
theorem dL_weeks_251 : decode cL_weeks 251 = .ok (.invokestatic 92, 3) := by decide +kernel
theorem dL_weeks_254 : decode cL_weeks 254 = .ok (.iadd, 1) := by decide +kernel
theorem dL_weeks_255 : decode cL_weeks 255 = .ok (.if_icmp .ne 30, 3) := by decide +kernel
theorem dL_weeks_258 : decode cL_weeks 258 = .ok (.iload 5, 2) := by decide +kernel
theorem dL_weeks_260 : decode cL_weeks 260 = .ok (.ifCond .lt 21, 3) := by decide +kernel
theorem dL_weeks_263 : decode cL_weeks 263 = .ok (.iload 5, 2) := by decide +kernel
theorem dL_weeks_265 : decode cL_weeks 265 = .ok (.iload 9, 2) := by decide +kernel
theorem dL_weeks_267 : decode cL_weeks 267 = .ok (.if_icmp .ne 14, 3) := by decide +kernel
theorem dL_weeks_270 : decode cL_weeks 270 = .ok (.aload_n 0, 1) := by decide +kernel
theorem dL_weeks_271 : decode cL_weeks 271 = .ok (.iload_n 1, 1) := by decide +kernel
theorem dL_weeks_272 : decode cL_weeks 272 = .ok (.iconst 0, 1) := by decide +kernel
theorem dL_weeks_273 : decode cL_weeks 273 = .ok (.invokestatic 99, 3) := by decide +kernel
theorem dL_weeks_276 : decode cL_weeks 276 = .ok (.iload 6, 2) := by decide +kernel
theorem dL_weeks_278 : decode cL_weeks 278 = .ok (.if_icmp .lt 7, 3) := by decide +kernel
theorem dL_weeks_281 : decode cL_weeks 281 = .ok (.iconst 1, 1) := by decide +kernel
theorem dL_weeks_282 : decode cL_weeks 282 = .ok (.goto 4, 3) := by decide +kernel
theorem dL_weeks_285 : decode cL_weeks 285 = .ok (.iconst 0, 1) := by decide +kernel
theorem dL_weeks_286 : decode cL_weeks 286 = .ok (.istore 8, 2) := by decide +kernel
theorem dL_weeks_288 : decode cL_weeks 288 = .ok (.iload 8, 2) := by decide +kernel
theorem dL_weeks_290 : decode cL_weeks 290 = .ok (.ifCond .eq 27, 3) := by decide +kernel
theorem dL_weeks_293 : decode cL_weeks 293 = .ok (.aload_n 0, 1) := by decide +kernel
theorem dL_weeks_294 : decode cL_weeks 294 = .ok (.bipush 8, 2) := by decide +kernel
theorem dL_weeks_296 : decode cL_weeks 296 = .ok (.invokestatic 92, 3) := by decide +kernel
theorem dL_weeks_299 : decode cL_weeks 299 = .ok (.bipush 39, 2) := by decide +kernel
theorem dL_weeks_301 : decode cL_weeks 301 = .ok (.if_icmp .lt 12, 3) := by decide +kernel
theorem dL_weeks_304 : decode cL_weeks 304 = .ok (.aload_n 0, 1) := by decide +kernel
theorem dL_weeks_305 : decode cL_weeks 305 = .ok (.invokestatic 116, 3) := by decide +kernel
theorem dL_weeks_308 : decode cL_weeks 308 = .ok (.bipush (-11), 2) := by decide +kernel
theorem dL_weeks_310 : decode cL_weeks 310 = .ok (.if_icmp .ne 7, 3) := by decide +kernel
theorem dL_weeks_313 : decode cL_weeks 313 = .ok (.iconst 1, 1) := by decide +kernel
theorem dL_weeks_314 : decode cL_weeks 314 = .ok (.goto 4, 3) := by decide +kernel
theorem dL_weeks_317 : decode cL_weeks 317 = .ok (.iconst 0, 1) := by decide +kernel
theorem dL_weeks_318 : decode cL_weeks 318 = .ok (.ireturn, 1) := by decide +kernel
theorem dL_exempts_0 : decode cL_exempts 0 = .ok (.aload_n 0, 1) := by decide +kernel
theorem dL_exempts_1 : decode cL_exempts 1 = .ok (.iload_n 1, 1) := by decide +kernel
theorem dL_exempts_2 : decode cL_exempts 2 = .ok (.invokestatic 102, 3) := by decide +kernel
theorem dL_exempts_5 : decode cL_exempts 5 = .ok (.istore_n 2, 1) := by decide +kernel
theorem dL_exempts_6 : decode cL_exempts 6 = .ok (.iconst 0, 1) := by decide +kernel
theorem dL_exempts_7 : decode cL_exempts 7 = .ok (.istore_n 3, 1) := by decide +kernel
theorem dL_exempts_8 : decode cL_exempts 8 = .ok (.iconst 1, 1) := by decide +kernel
theorem dL_exempts_9 : decode cL_exempts 9 = .ok (.istore 4, 2) := by decide +kernel
theorem dL_exempts_11 : decode cL_exempts 11 = .ok (.iconst 0, 1) := by decide +kernel
theorem dL_exempts_12 : decode cL_exempts 12 = .ok (.istore 5, 2) := by decide +kernel
theorem dL_exempts_14 : decode cL_exempts 14 = .ok (.iconst 0, 1) := by decide +kernel
theorem dL_exempts_15 : decode cL_exempts 15 = .ok (.istore 6, 2) := by decide +kernel
theorem dL_exempts_17 : decode cL_exempts 17 = .ok (.iload 6, 2) := by decide +kernel
theorem dL_exempts_19 : decode cL_exempts 19 = .ok (.bipush 30, 2) := by decide +kernel
theorem dL_exempts_21 : decode cL_exempts 21 = .ok (.if_icmp .ge 214, 3) := by decide +kernel
theorem dL_exempts_24 : decode cL_exempts 24 = .ok (.iload 4, 2) := by decide +kernel
theorem dL_exempts_26 : decode cL_exempts 26 = .ok (.ifCond .eq 209, 3) := by decide +kernel
theorem dL_exempts_29 : decode cL_exempts 29 = .ok (.iload 5, 2) := by decide +kernel
theorem dL_exempts_31 : decode cL_exempts 31 = .ok (.ifCond .ne 204, 3) := by decide +kernel
theorem dL_exempts_34 : decode cL_exempts 34 = .ok (.aload_n 0, 1) := by decide +kernel
theorem dL_exempts_35 : decode cL_exempts 35 = .ok (.iload 6, 2) := by decide +kernel
theorem dL_exempts_37 : decode cL_exempts 37 = .ok (.invokestatic 110, 3) := by decide +kernel
theorem dL_exempts_40 : decode cL_exempts 40 = .ok (.istore 7, 2) := by decide +kernel
theorem dL_exempts_42 : decode cL_exempts 42 = .ok (.iload 7, 2) := by decide +kernel
theorem dL_exempts_44 : decode cL_exempts 44 = .ok (.ifCond .ge 9, 3) := by decide +kernel
theorem dL_exempts_47 : decode cL_exempts 47 = .ok (.iconst 1, 1) := by decide +kernel
theorem dL_exempts_48 : decode cL_exempts 48 = .ok (.istore 5, 2) := by decide +kernel
theorem dL_exempts_50 : decode cL_exempts 50 = .ok (.goto 179, 3) := by decide +kernel
theorem dL_exempts_53 : decode cL_exempts 53 = .ok (.aload_n 0, 1) := by decide +kernel
theorem dL_exempts_54 : decode cL_exempts 54 = .ok (.iload 7, 2) := by decide +kernel
theorem dL_exempts_56 : decode cL_exempts 56 = .ok (.iconst 0, 1) := by decide +kernel
theorem dL_exempts_57 : decode cL_exempts 57 = .ok (.invokestatic 106, 3) := by decide +kernel
theorem dL_exempts_60 : decode cL_exempts 60 = .ok (.iload_n 1, 1) := by decide +kernel
theorem dL_exempts_61 : decode cL_exempts 61 = .ok (.if_icmp .ne 168, 3) := by decide +kernel
theorem dL_exempts_64 : decode cL_exempts 64 = .ok (.aload_n 0, 1) := by decide +kernel
theorem dL_exempts_65 : decode cL_exempts 65 = .ok (.iload 7, 2) := by decide +kernel
theorem dL_exempts_67 : decode cL_exempts 67 = .ok (.iconst 2, 1) := by decide +kernel
theorem dL_exempts_68 : decode cL_exempts 68 = .ok (.invokestatic 106, 3) := by decide +kernel
theorem dL_exempts_71 : decode cL_exempts 71 = .ok (.ifCond .ne 158, 3) := by decide +kernel
theorem dL_exempts_74 : decode cL_exempts 74 = .ok (.aload_n 0, 1) := by decide +kernel
theorem dL_exempts_75 : decode cL_exempts 75 = .ok (.iload 7, 2) := by decide +kernel
theorem dL_exempts_77 : decode cL_exempts 77 = .ok (.invokestatic 108, 3) := by decide +kernel
theorem dL_exempts_80 : decode cL_exempts 80 = .ok (.istore 8, 2) := by decide +kernel
theorem dL_exempts_82 : decode cL_exempts 82 = .ok (.aload_n 0, 1) := by decide +kernel
theorem dL_exempts_83 : decode cL_exempts 83 = .ok (.iload 7, 2) := by decide +kernel
theorem dL_exempts_85 : decode cL_exempts 85 = .ok (.iconst 1, 1) := by decide +kernel
theorem dL_exempts_86 : decode cL_exempts 86 = .ok (.invokestatic 106, 3) := by decide +kernel
theorem dL_exempts_89 : decode cL_exempts 89 = .ok (.aload_n 0, 1) := by decide +kernel
theorem dL_exempts_90 : decode cL_exempts 90 = .ok (.iconst 4, 1) := by decide +kernel
theorem dL_exempts_91 : decode cL_exempts 91 = .ok (.invokestatic 92, 3) := by decide +kernel
theorem dL_exempts_94 : decode cL_exempts 94 = .ok (.imul, 1) := by decide +kernel
theorem dL_exempts_95 : decode cL_exempts 95 = .ok (.istore 9, 2) := by decide +kernel
theorem dL_exempts_97 : decode cL_exempts 97 = .ok (.aload_n 0, 1) := by decide +kernel
theorem dL_exempts_98 : decode cL_exempts 98 = .ok (.iload_n 1, 1) := by decide +kernel
theorem dL_exempts_99 : decode cL_exempts 99 = .ok (.iconst 0, 1) := by decide +kernel
theorem dL_exempts_100 : decode cL_exempts 100 = .ok (.invokestatic 99, 3) := by decide +kernel
theorem dL_exempts_103 : decode cL_exempts 103 = .ok (.istore 10, 2) := by decide +kernel
theorem dL_exempts_105 : decode cL_exempts 105 = .ok (.aload_n 0, 1) := by decide +kernel
theorem dL_exempts_106 : decode cL_exempts 106 = .ok (.iload 7, 2) := by decide +kernel
theorem dL_exempts_108 : decode cL_exempts 108 = .ok (.invokestatic 119, 3) := by decide +kernel
theorem dL_exempts_111 : decode cL_exempts 111 = .ok (.istore 11, 2) := by decide +kernel
theorem dL_exempts_113 : decode cL_exempts 113 = .ok (.iload 8, 2) := by decide +kernel
theorem dL_exempts_115 : decode cL_exempts 115 = .ok (.ifCond .ne 65, 3) := by decide +kernel
theorem dL_exempts_118 : decode cL_exempts 118 = .ok (.iload 11, 2) := by decide +kernel
theorem dL_exempts_120 : decode cL_exempts 120 = .ok (.iload 9, 2) := by decide +kernel
theorem dL_exempts_122 : decode cL_exempts 122 = .ok (.if_icmp .ne 54, 3) := by decide +kernel
theorem dL_exempts_125 : decode cL_exempts 125 = .ok (.aload_n 0, 1) := by decide +kernel
theorem dL_exempts_126 : decode cL_exempts 126 = .ok (.iload_n 1, 1) := by decide +kernel
theorem dL_exempts_127 : decode cL_exempts 127 = .ok (.iconst 0, 1) := by decide +kernel
theorem dL_exempts_128 : decode cL_exempts 128 = .ok (.invokestatic 99, 3) := by decide +kernel
theorem dL_exempts_131 : decode cL_exempts 131 = .ok (.iload 10, 2) := by decide +kernel
theorem dL_exempts_133 : decode cL_exempts 133 = .ok (.iload 9, 2) := by decide +kernel
theorem dL_exempts_135 : decode cL_exempts 135 = .ok (.isub, 1) := by decide +kernel
theorem dL_exempts_136 : decode cL_exempts 136 = .ok (.if_icmp .ne 40, 3) := by decide +kernel
theorem dL_exempts_139 : decode cL_exempts 139 = .ok (.aload_n 0, 1) := by decide +kernel
theorem dL_exempts_140 : decode cL_exempts 140 = .ok (.iload 7, 2) := by decide +kernel
theorem dL_exempts_142 : decode cL_exempts 142 = .ok (.iconst 3, 1) := by decide +kernel
theorem dL_exempts_143 : decode cL_exempts 143 = .ok (.invokestatic 106, 3) := by decide +kernel
theorem dL_exempts_146 : decode cL_exempts 146 = .ok (.iload 9, 2) := by decide +kernel
theorem dL_exempts_148 : decode cL_exempts 148 = .ok (.if_icmp .ne 28, 3) := by decide +kernel
theorem dL_exempts_151 : decode cL_exempts 151 = .ok (.aload_n 0, 1) := by decide +kernel
theorem dL_exempts_152 : decode cL_exempts 152 = .ok (.iload 7, 2) := by decide +kernel
theorem dL_exempts_154 : decode cL_exempts 154 = .ok (.invokestatic 108, 3) := by decide +kernel
theorem dL_exempts_157 : decode cL_exempts 157 = .ok (.iconst 1, 1) := by decide +kernel
theorem dL_exempts_158 : decode cL_exempts 158 = .ok (.if_icmp .ne 18, 3) := by decide +kernel
theorem dL_exempts_161 : decode cL_exempts 161 = .ok (.aload_n 0, 1) := by decide +kernel
theorem dL_exempts_162 : decode cL_exempts 162 = .ok (.iload 7, 2) := by decide +kernel
theorem dL_exempts_164 : decode cL_exempts 164 = .ok (.invokestatic 119, 3) := by decide +kernel
theorem dL_exempts_167 : decode cL_exempts 167 = .ok (.bipush (-12), 2) := by decide +kernel
theorem dL_exempts_169 : decode cL_exempts 169 = .ok (.if_icmp .ne 7, 3) := by decide +kernel
theorem dL_exempts_172 : decode cL_exempts 172 = .ok (.iconst 1, 1) := by decide +kernel
theorem dL_exempts_173 : decode cL_exempts 173 = .ok (.goto 29, 3) := by decide +kernel
theorem dL_exempts_176 : decode cL_exempts 176 = .ok (.iconst 0, 1) := by decide +kernel
theorem dL_exempts_177 : decode cL_exempts 177 = .ok (.goto 25, 3) := by decide +kernel
theorem dL_exempts_180 : decode cL_exempts 180 = .ok (.iload 11, 2) := by decide +kernel
theorem dL_exempts_182 : decode cL_exempts 182 = .ok (.bipush (-12), 2) := by decide +kernel
theorem dL_exempts_184 : decode cL_exempts 184 = .ok (.if_icmp .ne 17, 3) := by decide +kernel
theorem dL_exempts_187 : decode cL_exempts 187 = .ok (.aload_n 0, 1) := by decide +kernel
theorem dL_exempts_188 : decode cL_exempts 188 = .ok (.iload 7, 2) := by decide +kernel
theorem dL_exempts_190 : decode cL_exempts 190 = .ok (.iconst 2, 1) := by decide +kernel
theorem dL_exempts_191 : decode cL_exempts 191 = .ok (.invokestatic 106, 3) := by decide +kernel
theorem dL_exempts_194 : decode cL_exempts 194 = .ok (.ifCond .ne 7, 3) := by decide +kernel
theorem dL_exempts_197 : decode cL_exempts 197 = .ok (.iconst 1, 1) := by decide +kernel
theorem dL_exempts_198 : decode cL_exempts 198 = .ok (.goto 4, 3) := by decide +kernel
theorem dL_exempts_201 : decode cL_exempts 201 = .ok (.iconst 0, 1) := by decide +kernel
theorem dL_exempts_202 : decode cL_exempts 202 = .ok (.istore 4, 2) := by decide +kernel
theorem dL_exempts_204 : decode cL_exempts 204 = .ok (.iload 8, 2) := by decide +kernel
theorem dL_exempts_206 : decode cL_exempts 206 = .ok (.ifCond .le 7, 3) := by decide +kernel
theorem dL_exempts_209 : decode cL_exempts 209 = .ok (.iconst 1, 1) := by decide +kernel
theorem dL_exempts_210 : decode cL_exempts 210 = .ok (.goto 4, 3) := by decide +kernel
theorem dL_exempts_213 : decode cL_exempts 213 = .ok (.iconst 0, 1) := by decide +kernel
theorem dL_exempts_214 : decode cL_exempts 214 = .ok (.istore 5, 2) := by decide +kernel
theorem dL_exempts_216 : decode cL_exempts 216 = .ok (.iload_n 3, 1) := by decide +kernel
theorem dL_exempts_217 : decode cL_exempts 217 = .ok (.iload 8, 2) := by decide +kernel
theorem dL_exempts_219 : decode cL_exempts 219 = .ok (.ifCond .ne 7, 3) := by decide +kernel
theorem dL_exempts_222 : decode cL_exempts 222 = .ok (.iconst 1, 1) := by decide +kernel
theorem dL_exempts_223 : decode cL_exempts 223 = .ok (.goto 4, 3) := by decide +kernel
theorem dL_exempts_226 : decode cL_exempts 226 = .ok (.iconst 0, 1) := by decide +kernel
theorem dL_exempts_227 : decode cL_exempts 227 = .ok (.iadd, 1) := by decide +kernel
theorem dL_exempts_228 : decode cL_exempts 228 = .ok (.istore_n 3, 1) := by decide +kernel
theorem dL_exempts_229 : decode cL_exempts 229 = .ok (.iinc 6 1, 3) := by decide +kernel
theorem dL_exempts_232 : decode cL_exempts 232 = .ok (.goto (-215), 3) := by decide +kernel
theorem dL_exempts_235 : decode cL_exempts 235 = .ok (.iload 4, 2) := by decide +kernel
theorem dL_exempts_237 : decode cL_exempts 237 = .ok (.ifCond .eq 12, 3) := by decide +kernel
theorem dL_exempts_240 : decode cL_exempts 240 = .ok (.iload_n 3, 1) := by decide +kernel
theorem dL_exempts_241 : decode cL_exempts 241 = .ok (.iload_n 2, 1) := by decide +kernel
theorem dL_exempts_242 : decode cL_exempts 242 = .ok (.if_icmp .ne 7, 3) := by decide +kernel
theorem dL_exempts_245 : decode cL_exempts 245 = .ok (.iconst 1, 1) := by decide +kernel
theorem dL_exempts_246 : decode cL_exempts 246 = .ok (.goto 4, 3) := by decide +kernel
theorem dL_exempts_249 : decode cL_exempts 249 = .ok (.iconst 0, 1) := by decide +kernel
theorem dL_exempts_250 : decode cL_exempts 250 = .ok (.ireturn, 1) := by decide +kernel
theorem dL_digits_0 : decode cL_digits 0 = .ok (.aload_n 0, 1) := by decide +kernel
theorem dL_digits_1 : decode cL_digits 1 = .ok (.bipush 32, 2) := by decide +kernel
theorem dL_digits_3 : decode cL_digits 3 = .ok (.invokestatic 121, 3) := by decide +kernel
theorem dL_digits_6 : decode cL_digits 6 = .ok (.pop, 1) := by decide +kernel
theorem dL_digits_7 : decode cL_digits 7 = .ok (.aload_n 0, 1) := by decide +kernel
theorem dL_digits_8 : decode cL_digits 8 = .ok (.bipush 48, 2) := by decide +kernel
theorem dL_digits_10 : decode cL_digits 10 = .ok (.iload_n 1, 1) := by decide +kernel
theorem dL_digits_11 : decode cL_digits 11 = .ok (.bipush 100, 2) := by decide +kernel
theorem dL_digits_13 : decode cL_digits 13 = .ok (.idiv, 1) := by decide +kernel
theorem dL_digits_14 : decode cL_digits 14 = .ok (.iadd, 1) := by decide +kernel
theorem dL_digits_15 : decode cL_digits 15 = .ok (.invokestatic 121, 3) := by decide +kernel
theorem dL_digits_18 : decode cL_digits 18 = .ok (.pop, 1) := by decide +kernel
theorem dL_digits_19 : decode cL_digits 19 = .ok (.aload_n 0, 1) := by decide +kernel
theorem dL_digits_20 : decode cL_digits 20 = .ok (.bipush 48, 2) := by decide +kernel
theorem dL_digits_22 : decode cL_digits 22 = .ok (.iload_n 1, 1) := by decide +kernel
theorem dL_digits_23 : decode cL_digits 23 = .ok (.bipush 10, 2) := by decide +kernel
theorem dL_digits_25 : decode cL_digits 25 = .ok (.idiv, 1) := by decide +kernel
theorem dL_digits_26 : decode cL_digits 26 = .ok (.bipush 10, 2) := by decide +kernel
theorem dL_digits_28 : decode cL_digits 28 = .ok (.irem, 1) := by decide +kernel
theorem dL_digits_29 : decode cL_digits 29 = .ok (.iadd, 1) := by decide +kernel
theorem dL_digits_30 : decode cL_digits 30 = .ok (.invokestatic 121, 3) := by decide +kernel
theorem dL_digits_33 : decode cL_digits 33 = .ok (.pop, 1) := by decide +kernel
theorem dL_digits_34 : decode cL_digits 34 = .ok (.aload_n 0, 1) := by decide +kernel
theorem dL_digits_35 : decode cL_digits 35 = .ok (.bipush 48, 2) := by decide +kernel
theorem dL_digits_37 : decode cL_digits 37 = .ok (.iload_n 1, 1) := by decide +kernel
theorem dL_digits_38 : decode cL_digits 38 = .ok (.bipush 10, 2) := by decide +kernel
theorem dL_digits_40 : decode cL_digits 40 = .ok (.irem, 1) := by decide +kernel
theorem dL_digits_41 : decode cL_digits 41 = .ok (.iadd, 1) := by decide +kernel
theorem dL_digits_42 : decode cL_digits 42 = .ok (.invokestatic 121, 3) := by decide +kernel
theorem dL_digits_45 : decode cL_digits 45 = .ok (.ireturn, 1) := by decide +kernel
theorem dL_runs_0 : decode cL_runs 0 = .ok (.aload_n 0, 1) := by decide +kernel
theorem dL_runs_1 : decode cL_runs 1 = .ok (.invokevirtual 123, 3) := by decide +kernel
theorem dL_runs_4 : decode cL_runs 4 = .ok (.pop, 1) := by decide +kernel
theorem dL_runs_5 : decode cL_runs 5 = .ok (.aload_n 0, 1) := by decide +kernel
theorem dL_runs_6 : decode cL_runs 6 = .ok (.invokevirtual 126, 3) := by decide +kernel
theorem dL_runs_9 : decode cL_runs 9 = .ok (.ifCond .ne 38, 3) := by decide +kernel
theorem dL_runs_12 : decode cL_runs 12 = .ok (.aload_n 0, 1) := by decide +kernel
theorem dL_runs_13 : decode cL_runs 13 = .ok (.invokestatic 129, 3) := by decide +kernel
theorem dL_runs_16 : decode cL_runs 16 = .ok (.ifCond .lt 31, 3) := by decide +kernel
theorem dL_runs_19 : decode cL_runs 19 = .ok (.aload_n 0, 1) := by decide +kernel
theorem dL_runs_20 : decode cL_runs 20 = .ok (.bipush 32, 2) := by decide +kernel
theorem dL_runs_22 : decode cL_runs 22 = .ok (.invokestatic 121, 3) := by decide +kernel
theorem dL_runs_25 : decode cL_runs 25 = .ok (.iconst 1, 1) := by decide +kernel
theorem dL_runs_26 : decode cL_runs 26 = .ok (.if_icmp .ne 21, 3) := by decide +kernel
theorem dL_runs_29 : decode cL_runs 29 = .ok (.aload_n 0, 1) := by decide +kernel
theorem dL_runs_30 : decode cL_runs 30 = .ok (.invokevirtual 126, 3) := by decide +kernel
theorem dL_runs_33 : decode cL_runs 33 = .ok (.ifCond .ne 14, 3) := by decide +kernel
theorem dL_runs_36 : decode cL_runs 36 = .ok (.aload_n 0, 1) := by decide +kernel
theorem dL_runs_37 : decode cL_runs 37 = .ok (.invokestatic 129, 3) := by decide +kernel
theorem dL_runs_40 : decode cL_runs 40 = .ok (.ifCond .lt 7, 3) := by decide +kernel
theorem dL_runs_43 : decode cL_runs 43 = .ok (.iconst 1, 1) := by decide +kernel
theorem dL_runs_44 : decode cL_runs 44 = .ok (.goto 4, 3) := by decide +kernel
theorem dL_runs_47 : decode cL_runs 47 = .ok (.iconst 0, 1) := by decide +kernel
theorem dL_runs_48 : decode cL_runs 48 = .ok (.istore_n 3, 1) := by decide +kernel
theorem dL_runs_49 : decode cL_runs 49 = .ok (.aload_n 0, 1) := by decide +kernel
theorem dL_runs_50 : decode cL_runs 50 = .ok (.bipush 97, 2) := by decide +kernel
theorem dL_runs_52 : decode cL_runs 52 = .ok (.invokestatic 121, 3) := by decide +kernel
theorem dL_runs_55 : decode cL_runs 55 = .ok (.pop, 1) := by decide +kernel
theorem dL_runs_56 : decode cL_runs 56 = .ok (.aload_n 0, 1) := by decide +kernel
theorem dL_runs_57 : decode cL_runs 57 = .ok (.bipush 115, 2) := by decide +kernel
theorem dL_runs_59 : decode cL_runs 59 = .ok (.invokestatic 121, 3) := by decide +kernel
theorem dL_runs_62 : decode cL_runs 62 = .ok (.pop, 1) := by decide +kernel
theorem dL_runs_63 : decode cL_runs 63 = .ok (.aload_n 0, 1) := by decide +kernel
theorem dL_runs_64 : decode cL_runs 64 = .ok (.bipush 107, 2) := by decide +kernel
theorem dL_runs_66 : decode cL_runs 66 = .ok (.invokestatic 121, 3) := by decide +kernel
theorem dL_runs_69 : decode cL_runs 69 = .ok (.pop, 1) := by decide +kernel
theorem dL_runs_70 : decode cL_runs 70 = .ok (.aload_n 0, 1) := by decide +kernel
theorem dL_runs_71 : decode cL_runs 71 = .ok (.iload_n 1, 1) := by decide +kernel
theorem dL_runs_72 : decode cL_runs 72 = .ok (.invokestatic 131, 3) := by decide +kernel
theorem dL_runs_75 : decode cL_runs 75 = .ok (.pop, 1) := by decide +kernel
theorem dL_runs_76 : decode cL_runs 76 = .ok (.aload_n 0, 1) := by decide +kernel
theorem dL_runs_77 : decode cL_runs 77 = .ok (.iload_n 2, 1) := by decide +kernel
theorem dL_runs_78 : decode cL_runs 78 = .ok (.invokestatic 131, 3) := by decide +kernel
theorem dL_runs_81 : decode cL_runs 81 = .ok (.pop, 1) := by decide +kernel
theorem dL_runs_82 : decode cL_runs 82 = .ok (.aload_n 0, 1) := by decide +kernel
theorem dL_runs_83 : decode cL_runs 83 = .ok (.bipush 59, 2) := by decide +kernel
theorem dL_runs_85 : decode cL_runs 85 = .ok (.invokestatic 121, 3) := by decide +kernel
theorem dL_runs_88 : decode cL_runs 88 = .ok (.pop, 1) := by decide +kernel
theorem dL_runs_89 : decode cL_runs 89 = .ok (.aload_n 0, 1) := by decide +kernel
theorem dL_runs_90 : decode cL_runs 90 = .ok (.bipush 119, 2) := by decide +kernel
theorem dL_runs_92 : decode cL_runs 92 = .ok (.invokestatic 121, 3) := by decide +kernel
theorem dL_runs_95 : decode cL_runs 95 = .ok (.pop, 1) := by decide +kernel
theorem dL_runs_96 : decode cL_runs 96 = .ok (.aload_n 0, 1) := by decide +kernel
theorem dL_runs_97 : decode cL_runs 97 = .ok (.bipush 101, 2) := by decide +kernel
theorem dL_runs_99 : decode cL_runs 99 = .ok (.invokestatic 121, 3) := by decide +kernel
theorem dL_runs_102 : decode cL_runs 102 = .ok (.pop, 1) := by decide +kernel
theorem dL_runs_103 : decode cL_runs 103 = .ok (.aload_n 0, 1) := by decide +kernel
theorem dL_runs_104 : decode cL_runs 104 = .ok (.bipush 101, 2) := by decide +kernel
theorem dL_runs_106 : decode cL_runs 106 = .ok (.invokestatic 121, 3) := by decide +kernel
theorem dL_runs_109 : decode cL_runs 109 = .ok (.pop, 1) := by decide +kernel
theorem dL_runs_110 : decode cL_runs 110 = .ok (.aload_n 0, 1) := by decide +kernel
theorem dL_runs_111 : decode cL_runs 111 = .ok (.bipush 107, 2) := by decide +kernel
theorem dL_runs_113 : decode cL_runs 113 = .ok (.invokestatic 121, 3) := by decide +kernel
theorem dL_runs_116 : decode cL_runs 116 = .ok (.pop, 1) := by decide +kernel
theorem dL_runs_117 : decode cL_runs 117 = .ok (.aload_n 0, 1) := by decide +kernel
theorem dL_runs_118 : decode cL_runs 118 = .ok (.bipush 59, 2) := by decide +kernel
theorem dL_runs_120 : decode cL_runs 120 = .ok (.invokestatic 121, 3) := by decide +kernel
theorem dL_runs_123 : decode cL_runs 123 = .ok (.istore 4, 2) := by decide +kernel
theorem dL_runs_125 : decode cL_runs 125 = .ok (.aload_n 0, 1) := by decide +kernel
theorem dL_runs_126 : decode cL_runs 126 = .ok (.iconst 1, 1) := by decide +kernel
theorem dL_runs_127 : decode cL_runs 127 = .ok (.invokestatic 92, 3) := by decide +kernel
theorem dL_runs_130 : decode cL_runs 130 = .ok (.istore 5, 2) := by decide +kernel
theorem dL_runs_132 : decode cL_runs 132 = .ok (.aload_n 0, 1) := by decide +kernel
theorem dL_runs_133 : decode cL_runs 133 = .ok (.bipush 8, 2) := by decide +kernel
theorem dL_runs_135 : decode cL_runs 135 = .ok (.invokestatic 92, 3) := by decide +kernel
theorem dL_runs_138 : decode cL_runs 138 = .ok (.istore 6, 2) := by decide +kernel
theorem dL_runs_140 : decode cL_runs 140 = .ok (.aload_n 0, 1) := by decide +kernel
theorem dL_runs_141 : decode cL_runs 141 = .ok (.bipush 13, 2) := by decide +kernel
theorem dL_runs_143 : decode cL_runs 143 = .ok (.invokestatic 92, 3) := by decide +kernel
theorem dL_runs_146 : decode cL_runs 146 = .ok (.istore 7, 2) := by decide +kernel
theorem dL_runs_148 : decode cL_runs 148 = .ok (.aload_n 0, 1) := by decide +kernel
theorem dL_runs_149 : decode cL_runs 149 = .ok (.invokevirtual 126, 3) := by decide +kernel
theorem dL_runs_152 : decode cL_runs 152 = .ok (.istore 8, 2) := by decide +kernel
theorem dL_runs_154 : decode cL_runs 154 = .ok (.iload 5, 2) := by decide +kernel
theorem dL_runs_156 : decode cL_runs 156 = .ok (.bipush 30, 2) := by decide +kernel
theorem dL_runs_158 : decode cL_runs 158 = .ok (.if_icmp .ge 7, 3) := by decide +kernel
theorem dL_runs_161 : decode cL_runs 161 = .ok (.iconst 1, 1) := by decide +kernel
theorem dL_runs_162 : decode cL_runs 162 = .ok (.goto 4, 3) := by decide +kernel
theorem dL_runs_165 : decode cL_runs 165 = .ok (.iconst 0, 1) := by decide +kernel
theorem dL_runs_166 : decode cL_runs 166 = .ok (.istore 9, 2) := by decide +kernel
theorem dL_runs_168 : decode cL_runs 168 = .ok (.iload 9, 2) := by decide +kernel
theorem dL_runs_170 : decode cL_runs 170 = .ok (.ifCond .eq 14, 3) := by decide +kernel
theorem dL_runs_173 : decode cL_runs 173 = .ok (.iload 6, 2) := by decide +kernel
theorem dL_runs_175 : decode cL_runs 175 = .ok (.bipush 39, 2) := by decide +kernel
theorem dL_runs_177 : decode cL_runs 177 = .ok (.if_icmp .ge 7, 3) := by decide +kernel
theorem dL_runs_180 : decode cL_runs 180 = .ok (.iconst 1, 1) := by decide +kernel
theorem dL_runs_181 : decode cL_runs 181 = .ok (.goto 4, 3) := by decide +kernel
theorem dL_runs_184 : decode cL_runs 184 = .ok (.iconst 0, 1) := by decide +kernel
theorem dL_runs_185 : decode cL_runs 185 = .ok (.istore 10, 2) := by decide +kernel
theorem dL_runs_187 : decode cL_runs 187 = .ok (.iload_n 3, 1) := by decide +kernel
theorem dL_runs_188 : decode cL_runs 188 = .ok (.ifCond .eq 81, 3) := by decide +kernel
theorem dL_runs_191 : decode cL_runs 191 = .ok (.iload 4, 2) := by decide +kernel
theorem dL_runs_193 : decode cL_runs 193 = .ok (.bipush 18, 2) := by decide +kernel
theorem dL_runs_195 : decode cL_runs 195 = .ok (.if_icmp .ne 74, 3) := by decide +kernel
theorem dL_runs_198 : decode cL_runs 198 = .ok (.iload 8, 2) := by decide +kernel
theorem dL_runs_200 : decode cL_runs 200 = .ok (.iload 9, 2) := by decide +kernel
theorem dL_runs_202 : decode cL_runs 202 = .ok (.ifCond .eq 16, 3) := by decide +kernel
theorem dL_runs_205 : decode cL_runs 205 = .ok (.iload 10, 2) := by decide +kernel
theorem dL_runs_207 : decode cL_runs 207 = .ok (.ifCond .eq 7, 3) := by decide +kernel
theorem dL_runs_210 : decode cL_runs 210 = .ok (.iconst 2, 1) := by decide +kernel
theorem dL_runs_211 : decode cL_runs 211 = .ok (.goto 8, 3) := by decide +kernel
theorem dL_runs_214 : decode cL_runs 214 = .ok (.iconst 1, 1) := by decide +kernel
theorem dL_runs_215 : decode cL_runs 215 = .ok (.goto 4, 3) := by decide +kernel
theorem dL_runs_218 : decode cL_runs 218 = .ok (.iconst 0, 1) := by decide +kernel
theorem dL_runs_219 : decode cL_runs 219 = .ok (.if_icmp .ne 50, 3) := by decide +kernel
theorem dL_runs_222 : decode cL_runs 222 = .ok (.aload_n 0, 1) := by decide +kernel
theorem dL_runs_223 : decode cL_runs 223 = .ok (.iconst 1, 1) := by decide +kernel
theorem dL_runs_224 : decode cL_runs 224 = .ok (.invokestatic 92, 3) := by decide +kernel
theorem dL_runs_227 : decode cL_runs 227 = .ok (.iload 5, 2) := by decide +kernel
theorem dL_runs_229 : decode cL_runs 229 = .ok (.iload 9, 2) := by decide +kernel
theorem dL_runs_231 : decode cL_runs 231 = .ok (.ifCond .eq 7, 3) := by decide +kernel
theorem dL_runs_234 : decode cL_runs 234 = .ok (.iconst 1, 1) := by decide +kernel
theorem dL_runs_235 : decode cL_runs 235 = .ok (.goto 4, 3) := by decide +kernel
theorem dL_runs_238 : decode cL_runs 238 = .ok (.iconst 0, 1) := by decide +kernel
theorem dL_runs_239 : decode cL_runs 239 = .ok (.iadd, 1) := by decide +kernel
theorem dL_runs_240 : decode cL_runs 240 = .ok (.if_icmp .ne 29, 3) := by decide +kernel
theorem dL_runs_243 : decode cL_runs 243 = .ok (.aload_n 0, 1) := by decide +kernel
theorem dL_runs_244 : decode cL_runs 244 = .ok (.bipush 8, 2) := by decide +kernel
theorem dL_runs_246 : decode cL_runs 246 = .ok (.invokestatic 92, 3) := by decide +kernel
theorem dL_runs_249 : decode cL_runs 249 = .ok (.iload 6, 2) := by decide +kernel
theorem dL_runs_251 : decode cL_runs 251 = .ok (.iload 10, 2) := by decide +kernel
theorem dL_runs_253 : decode cL_runs 253 = .ok (.ifCond .eq 7, 3) := by decide +kernel
theorem dL_runs_256 : decode cL_runs 256 = .ok (.iconst 1, 1) := by decide +kernel
theorem dL_runs_257 : decode cL_runs 257 = .ok (.goto 4, 3) := by decide +kernel
theorem dL_runs_260 : decode cL_runs 260 = .ok (.iconst 0, 1) := by decide +kernel
theorem dL_runs_261 : decode cL_runs 261 = .ok (.iadd, 1) := by decide +kernel
theorem dL_runs_262 : decode cL_runs 262 = .ok (.if_icmp .ne 7, 3) := by decide +kernel
theorem dL_runs_265 : decode cL_runs 265 = .ok (.iconst 1, 1) := by decide +kernel
theorem dL_runs_266 : decode cL_runs 266 = .ok (.goto 4, 3) := by decide +kernel
theorem dL_runs_269 : decode cL_runs 269 = .ok (.iconst 0, 1) := by decide +kernel
theorem dL_runs_270 : decode cL_runs 270 = .ok (.istore_n 3, 1) := by decide +kernel
theorem dL_runs_271 : decode cL_runs 271 = .ok (.aload_n 0, 1) := by decide +kernel
theorem dL_runs_272 : decode cL_runs 272 = .ok (.bipush 13, 2) := by decide +kernel
theorem dL_runs_274 : decode cL_runs 274 = .ok (.invokestatic 92, 3) := by decide +kernel
theorem dL_runs_277 : decode cL_runs 277 = .ok (.istore 11, 2) := by decide +kernel
theorem dL_runs_279 : decode cL_runs 279 = .ok (.iload_n 3, 1) := by decide +kernel
theorem dL_runs_280 : decode cL_runs 280 = .ok (.ifCond .eq 79, 3) := by decide +kernel
theorem dL_runs_283 : decode cL_runs 283 = .ok (.aload_n 0, 1) := by decide +kernel
theorem dL_runs_284 : decode cL_runs 284 = .ok (.invokestatic 129, 3) := by decide +kernel
theorem dL_runs_287 : decode cL_runs 287 = .ok (.ifCond .lt 72, 3) := by decide +kernel
theorem dL_runs_290 : decode cL_runs 290 = .ok (.aload_n 0, 1) := by decide +kernel
theorem dL_runs_291 : decode cL_runs 291 = .ok (.iconst 1, 1) := by decide +kernel
theorem dL_runs_292 : decode cL_runs 292 = .ok (.invokestatic 92, 3) := by decide +kernel
theorem dL_runs_295 : decode cL_runs 295 = .ok (.iload 5, 2) := by decide +kernel
theorem dL_runs_297 : decode cL_runs 297 = .ok (.if_icmp .ne 62, 3) := by decide +kernel
theorem dL_runs_300 : decode cL_runs 300 = .ok (.aload_n 0, 1) := by decide +kernel
theorem dL_runs_301 : decode cL_runs 301 = .ok (.bipush 8, 2) := by decide +kernel
theorem dL_runs_303 : decode cL_runs 303 = .ok (.invokestatic 92, 3) := by decide +kernel
theorem dL_runs_306 : decode cL_runs 306 = .ok (.iload 6, 2) := by decide +kernel
theorem dL_runs_308 : decode cL_runs 308 = .ok (.if_icmp .ne 51, 3) := by decide +kernel
theorem dL_runs_311 : decode cL_runs 311 = .ok (.aload_n 0, 1) := by decide +kernel
theorem dL_runs_312 : decode cL_runs 312 = .ok (.bipush 13, 2) := by decide +kernel
theorem dL_runs_314 : decode cL_runs 314 = .ok (.invokestatic 92, 3) := by decide +kernel
theorem dL_runs_317 : decode cL_runs 317 = .ok (.iload 7, 2) := by decide +kernel
theorem dL_runs_319 : decode cL_runs 319 = .ok (.if_icmp .ne 40, 3) := by decide +kernel
theorem dL_runs_322 : decode cL_runs 322 = .ok (.iload 9, 2) := by decide +kernel
theorem dL_runs_324 : decode cL_runs 324 = .ok (.ifCond .eq 14, 3) := by decide +kernel
theorem dL_runs_327 : decode cL_runs 327 = .ok (.aload_n 0, 1) := by decide +kernel
theorem dL_runs_328 : decode cL_runs 328 = .ok (.iload_n 1, 1) := by decide +kernel
theorem dL_runs_329 : decode cL_runs 329 = .ok (.iload_n 2, 1) := by decide +kernel
theorem dL_runs_330 : decode cL_runs 330 = .ok (.invokestatic 134, 3) := by decide +kernel
theorem dL_runs_333 : decode cL_runs 333 = .ok (.iload 5, 2) := by decide +kernel
theorem dL_runs_335 : decode cL_runs 335 = .ok (.if_icmp .ne 24, 3) := by decide +kernel
theorem dL_runs_338 : decode cL_runs 338 = .ok (.iload 10, 2) := by decide +kernel
theorem dL_runs_340 : decode cL_runs 340 = .ok (.ifCond .eq 15, 3) := by decide +kernel
theorem dL_runs_343 : decode cL_runs 343 = .ok (.aload_n 0, 1) := by decide +kernel
theorem dL_runs_344 : decode cL_runs 344 = .ok (.invokestatic 116, 3) := by decide +kernel
theorem dL_runs_347 : decode cL_runs 347 = .ok (.iload 11, 2) := by decide +kernel
theorem dL_runs_349 : decode cL_runs 349 = .ok (.iload 7, 2) := by decide +kernel
theorem dL_runs_351 : decode cL_runs 351 = .ok (.isub, 1) := by decide +kernel
theorem dL_runs_352 : decode cL_runs 352 = .ok (.if_icmp .ne 7, 3) := by decide +kernel
theorem dL_runs_355 : decode cL_runs 355 = .ok (.iconst 1, 1) := by decide +kernel
theorem dL_runs_356 : decode cL_runs 356 = .ok (.goto 4, 3) := by decide +kernel
theorem dL_runs_359 : decode cL_runs 359 = .ok (.iconst 0, 1) := by decide +kernel
theorem dL_runs_360 : decode cL_runs 360 = .ok (.istore_n 3, 1) := by decide +kernel
theorem dL_runs_361 : decode cL_runs 361 = .ok (.aload_n 0, 1) := by decide +kernel
theorem dL_runs_362 : decode cL_runs 362 = .ok (.bipush 17, 2) := by decide +kernel
theorem dL_runs_364 : decode cL_runs 364 = .ok (.invokestatic 92, 3) := by decide +kernel
theorem dL_runs_367 : decode cL_runs 367 = .ok (.istore 12, 2) := by decide +kernel
theorem dL_runs_369 : decode cL_runs 369 = .ok (.iload_n 3, 1) := by decide +kernel
theorem dL_runs_370 : decode cL_runs 370 = .ok (.ifCond .eq 63, 3) := by decide +kernel
theorem dL_runs_373 : decode cL_runs 373 = .ok (.iload 12, 2) := by decide +kernel
theorem dL_runs_375 : decode cL_runs 375 = .ok (.bipush 18, 2) := by decide +kernel
theorem dL_runs_377 : decode cL_runs 377 = .ok (.if_icmp .ne 56, 3) := by decide +kernel
theorem dL_runs_380 : decode cL_runs 380 = .ok (.aload_n 0, 1) := by decide +kernel
theorem dL_runs_381 : decode cL_runs 381 = .ok (.bipush 119, 2) := by decide +kernel
theorem dL_runs_383 : decode cL_runs 383 = .ok (.invokestatic 121, 3) := by decide +kernel
theorem dL_runs_386 : decode cL_runs 386 = .ok (.bipush 19, 2) := by decide +kernel
theorem dL_runs_388 : decode cL_runs 388 = .ok (.if_icmp .ne 45, 3) := by decide +kernel
theorem dL_runs_391 : decode cL_runs 391 = .ok (.aload_n 0, 1) := by decide +kernel
theorem dL_runs_392 : decode cL_runs 392 = .ok (.invokevirtual 126, 3) := by decide +kernel
theorem dL_runs_395 : decode cL_runs 395 = .ok (.bipush (-28), 2) := by decide +kernel
theorem dL_runs_397 : decode cL_runs 397 = .ok (.if_icmp .ne 36, 3) := by decide +kernel
theorem dL_runs_400 : decode cL_runs 400 = .ok (.aload_n 0, 1) := by decide +kernel
theorem dL_runs_401 : decode cL_runs 401 = .ok (.bipush 32, 2) := by decide +kernel
theorem dL_runs_403 : decode cL_runs 403 = .ok (.invokestatic 121, 3) := by decide +kernel
theorem dL_runs_406 : decode cL_runs 406 = .ok (.bipush 20, 2) := by decide +kernel
theorem dL_runs_408 : decode cL_runs 408 = .ok (.if_icmp .ne 25, 3) := by decide +kernel
theorem dL_runs_411 : decode cL_runs 411 = .ok (.aload_n 0, 1) := by decide +kernel
theorem dL_runs_412 : decode cL_runs 412 = .ok (.invokevirtual 126, 3) := by decide +kernel
theorem dL_runs_415 : decode cL_runs 415 = .ok (.bipush (-28), 2) := by decide +kernel
theorem dL_runs_417 : decode cL_runs 417 = .ok (.if_icmp .ne 16, 3) := by decide +kernel
theorem dL_runs_420 : decode cL_runs 420 = .ok (.aload_n 0, 1) := by decide +kernel
theorem dL_runs_421 : decode cL_runs 421 = .ok (.invokevirtual 123, 3) := by decide +kernel
theorem dL_runs_424 : decode cL_runs 424 = .ok (.bipush 20, 2) := by decide +kernel
theorem dL_runs_426 : decode cL_runs 426 = .ok (.if_icmp .ne 7, 3) := by decide +kernel
theorem dL_runs_429 : decode cL_runs 429 = .ok (.iconst 1, 1) := by decide +kernel
theorem dL_runs_430 : decode cL_runs 430 = .ok (.goto 4, 3) := by decide +kernel
theorem dL_runs_433 : decode cL_runs 433 = .ok (.iconst 0, 1) := by decide +kernel
theorem dL_runs_434 : decode cL_runs 434 = .ok (.istore_n 3, 1) := by decide +kernel
theorem dL_runs_435 : decode cL_runs 435 = .ok (.aload_n 0, 1) := by decide +kernel
theorem dL_runs_436 : decode cL_runs 436 = .ok (.bipush 116, 2) := by decide +kernel
theorem dL_runs_438 : decode cL_runs 438 = .ok (.invokestatic 121, 3) := by decide +kernel
theorem dL_runs_441 : decode cL_runs 441 = .ok (.pop, 1) := by decide +kernel
theorem dL_runs_442 : decode cL_runs 442 = .ok (.aload_n 0, 1) := by decide +kernel
theorem dL_runs_443 : decode cL_runs 443 = .ok (.bipush 101, 2) := by decide +kernel
theorem dL_runs_445 : decode cL_runs 445 = .ok (.invokestatic 121, 3) := by decide +kernel
theorem dL_runs_448 : decode cL_runs 448 = .ok (.pop, 1) := by decide +kernel
theorem dL_runs_449 : decode cL_runs 449 = .ok (.aload_n 0, 1) := by decide +kernel
theorem dL_runs_450 : decode cL_runs 450 = .ok (.bipush 97, 2) := by decide +kernel
theorem dL_runs_452 : decode cL_runs 452 = .ok (.invokestatic 121, 3) := by decide +kernel
theorem dL_runs_455 : decode cL_runs 455 = .ok (.pop, 1) := by decide +kernel
theorem dL_runs_456 : decode cL_runs 456 = .ok (.aload_n 0, 1) := by decide +kernel
theorem dL_runs_457 : decode cL_runs 457 = .ok (.bipush 109, 2) := by decide +kernel
theorem dL_runs_459 : decode cL_runs 459 = .ok (.invokestatic 121, 3) := by decide +kernel
theorem dL_runs_462 : decode cL_runs 462 = .ok (.pop, 1) := by decide +kernel
theorem dL_runs_463 : decode cL_runs 463 = .ok (.iload_n 3, 1) := by decide +kernel
theorem dL_runs_464 : decode cL_runs 464 = .ok (.ifCond .eq 88, 3) := by decide +kernel
theorem dL_runs_467 : decode cL_runs 467 = .ok (.aload_n 0, 1) := by decide +kernel
theorem dL_runs_468 : decode cL_runs 468 = .ok (.invokevirtual 126, 3) := by decide +kernel
theorem dL_runs_471 : decode cL_runs 471 = .ok (.bipush (-14), 2) := by decide +kernel
theorem dL_runs_473 : decode cL_runs 473 = .ok (.if_icmp .ne 79, 3) := by decide +kernel
theorem dL_runs_476 : decode cL_runs 476 = .ok (.aload_n 0, 1) := by decide +kernel
theorem dL_runs_477 : decode cL_runs 477 = .ok (.bipush 32, 2) := by decide +kernel
theorem dL_runs_479 : decode cL_runs 479 = .ok (.invokestatic 121, 3) := by decide +kernel
theorem dL_runs_482 : decode cL_runs 482 = .ok (.iconst 5, 1) := by decide +kernel
theorem dL_runs_483 : decode cL_runs 483 = .ok (.if_icmp .ne 69, 3) := by decide +kernel
theorem dL_runs_486 : decode cL_runs 486 = .ok (.aload_n 0, 1) := by decide +kernel
theorem dL_runs_487 : decode cL_runs 487 = .ok (.invokevirtual 126, 3) := by decide +kernel
theorem dL_runs_490 : decode cL_runs 490 = .ok (.bipush (-15), 2) := by decide +kernel
theorem dL_runs_492 : decode cL_runs 492 = .ok (.if_icmp .ne 60, 3) := by decide +kernel
theorem dL_runs_495 : decode cL_runs 495 = .ok (.aload_n 0, 1) := by decide +kernel
theorem dL_runs_496 : decode cL_runs 496 = .ok (.bipush 55, 2) := by decide +kernel
theorem dL_runs_498 : decode cL_runs 498 = .ok (.invokestatic 121, 3) := by decide +kernel
theorem dL_runs_501 : decode cL_runs 501 = .ok (.bipush 6, 2) := by decide +kernel
theorem dL_runs_503 : decode cL_runs 503 = .ok (.if_icmp .ne 49, 3) := by decide +kernel
theorem dL_runs_506 : decode cL_runs 506 = .ok (.aload_n 0, 1) := by decide +kernel
theorem dL_runs_507 : decode cL_runs 507 = .ok (.bipush 55, 2) := by decide +kernel
theorem dL_runs_509 : decode cL_runs 509 = .ok (.invokestatic 121, 3) := by decide +kernel
theorem dL_runs_512 : decode cL_runs 512 = .ok (.bipush 7, 2) := by decide +kernel
theorem dL_runs_514 : decode cL_runs 514 = .ok (.if_icmp .ne 38, 3) := by decide +kernel
theorem dL_runs_517 : decode cL_runs 517 = .ok (.aload_n 0, 1) := by decide +kernel
theorem dL_runs_518 : decode cL_runs 518 = .ok (.bipush 55, 2) := by decide +kernel
theorem dL_runs_520 : decode cL_runs 520 = .ok (.invokestatic 121, 3) := by decide +kernel
theorem dL_runs_523 : decode cL_runs 523 = .ok (.bipush 8, 2) := by decide +kernel
theorem dL_runs_525 : decode cL_runs 525 = .ok (.if_icmp .ne 27, 3) := by decide +kernel
theorem dL_runs_528 : decode cL_runs 528 = .ok (.aload_n 0, 1) := by decide +kernel
theorem dL_runs_529 : decode cL_runs 529 = .ok (.bipush 55, 2) := by decide +kernel
theorem dL_runs_531 : decode cL_runs 531 = .ok (.invokestatic 121, 3) := by decide +kernel
theorem dL_runs_534 : decode cL_runs 534 = .ok (.bipush 9, 2) := by decide +kernel
theorem dL_runs_536 : decode cL_runs 536 = .ok (.if_icmp .ne 16, 3) := by decide +kernel
theorem dL_runs_539 : decode cL_runs 539 = .ok (.aload_n 0, 1) := by decide +kernel
theorem dL_runs_540 : decode cL_runs 540 = .ok (.invokevirtual 126, 3) := by decide +kernel
theorem dL_runs_543 : decode cL_runs 543 = .ok (.bipush (-18), 2) := by decide +kernel
theorem dL_runs_545 : decode cL_runs 545 = .ok (.if_icmp .ne 7, 3) := by decide +kernel
theorem dL_runs_548 : decode cL_runs 548 = .ok (.iconst 1, 1) := by decide +kernel
theorem dL_runs_549 : decode cL_runs 549 = .ok (.goto 4, 3) := by decide +kernel
theorem dL_runs_552 : decode cL_runs 552 = .ok (.iconst 0, 1) := by decide +kernel
theorem dL_runs_553 : decode cL_runs 553 = .ok (.istore_n 3, 1) := by decide +kernel
theorem dL_runs_554 : decode cL_runs 554 = .ok (.iload_n 3, 1) := by decide +kernel
theorem dL_runs_555 : decode cL_runs 555 = .ok (.ifCond .eq 43, 3) := by decide +kernel
theorem dL_runs_558 : decode cL_runs 558 = .ok (.aload_n 0, 1) := by decide +kernel
theorem dL_runs_559 : decode cL_runs 559 = .ok (.invokevirtual 123, 3) := by decide +kernel
theorem dL_runs_562 : decode cL_runs 562 = .ok (.bipush 9, 2) := by decide +kernel
theorem dL_runs_564 : decode cL_runs 564 = .ok (.if_icmp .ne 34, 3) := by decide +kernel
theorem dL_runs_567 : decode cL_runs 567 = .ok (.aload_n 0, 1) := by decide +kernel
theorem dL_runs_568 : decode cL_runs 568 = .ok (.bipush 59, 2) := by decide +kernel
theorem dL_runs_570 : decode cL_runs 570 = .ok (.invokestatic 121, 3) := by decide +kernel
theorem dL_runs_573 : decode cL_runs 573 = .ok (.iconst 1, 1) := by decide +kernel
theorem dL_runs_574 : decode cL_runs 574 = .ok (.if_icmp .ne 24, 3) := by decide +kernel
theorem dL_runs_577 : decode cL_runs 577 = .ok (.aload_n 0, 1) := by decide +kernel
theorem dL_runs_578 : decode cL_runs 578 = .ok (.invokevirtual 126, 3) := by decide +kernel
theorem dL_runs_581 : decode cL_runs 581 = .ok (.bipush (-10), 2) := by decide +kernel
theorem dL_runs_583 : decode cL_runs 583 = .ok (.if_icmp .ne 15, 3) := by decide +kernel
theorem dL_runs_586 : decode cL_runs 586 = .ok (.aload_n 0, 1) := by decide +kernel
theorem dL_runs_587 : decode cL_runs 587 = .ok (.invokevirtual 123, 3) := by decide +kernel
theorem dL_runs_590 : decode cL_runs 590 = .ok (.iconst 1, 1) := by decide +kernel
theorem dL_runs_591 : decode cL_runs 591 = .ok (.if_icmp .ne 7, 3) := by decide +kernel
theorem dL_runs_594 : decode cL_runs 594 = .ok (.iconst 1, 1) := by decide +kernel
theorem dL_runs_595 : decode cL_runs 595 = .ok (.goto 4, 3) := by decide +kernel
theorem dL_runs_598 : decode cL_runs 598 = .ok (.iconst 0, 1) := by decide +kernel
theorem dL_runs_599 : decode cL_runs 599 = .ok (.ireturn, 1) := by decide +kernel
theorem dL_refuses_0 : decode cL_refuses 0 = .ok (.aload_n 0, 1) := by decide +kernel
theorem dL_refuses_1 : decode cL_refuses 1 = .ok (.invokevirtual 136, 3) := by decide +kernel
theorem dL_refuses_4 : decode cL_refuses 4 = .ok (.lstore_n 1, 1) := by decide +kernel
theorem dL_refuses_5 : decode cL_refuses 5 = .ok (.aload_n 0, 1) := by decide +kernel
theorem dL_refuses_6 : decode cL_refuses 6 = .ok (.iconst 0, 1) := by decide +kernel
theorem dL_refuses_7 : decode cL_refuses 7 = .ok (.invokestatic 92, 3) := by decide +kernel
theorem dL_refuses_10 : decode cL_refuses 10 = .ok (.istore_n 3, 1) := by decide +kernel
theorem dL_refuses_11 : decode cL_refuses 11 = .ok (.aload_n 0, 1) := by decide +kernel
theorem dL_refuses_12 : decode cL_refuses 12 = .ok (.iconst 1, 1) := by decide +kernel
theorem dL_refuses_13 : decode cL_refuses 13 = .ok (.invokestatic 92, 3) := by decide +kernel
theorem dL_refuses_16 : decode cL_refuses 16 = .ok (.istore 4, 2) := by decide +kernel
theorem dL_refuses_18 : decode cL_refuses 18 = .ok (.aload_n 0, 1) := by decide +kernel
theorem dL_refuses_19 : decode cL_refuses 19 = .ok (.iconst (-1), 1) := by decide +kernel
theorem dL_refuses_20 : decode cL_refuses 20 = .ok (.invokestatic 140, 3) := by decide +kernel
theorem dL_refuses_23 : decode cL_refuses 23 = .ok (.bipush (-11), 2) := by decide +kernel
theorem dL_refuses_25 : decode cL_refuses 25 = .ok (.if_icmp .ne 172, 3) := by decide +kernel
theorem dL_refuses_28 : decode cL_refuses 28 = .ok (.aload_n 0, 1) := by decide +kernel
theorem dL_refuses_29 : decode cL_refuses 29 = .ok (.sipush 1000, 3) := by decide +kernel
theorem dL_refuses_32 : decode cL_refuses 32 = .ok (.invokestatic 140, 3) := by decide +kernel
theorem dL_refuses_35 : decode cL_refuses 35 = .ok (.bipush (-11), 2) := by decide +kernel
theorem dL_refuses_37 : decode cL_refuses 37 = .ok (.if_icmp .ne 160, 3) := by decide +kernel
theorem dL_refuses_40 : decode cL_refuses 40 = .ok (.aload_n 0, 1) := by decide +kernel
theorem dL_refuses_41 : decode cL_refuses 41 = .ok (.bipush 40, 2) := by decide +kernel
theorem dL_refuses_43 : decode cL_refuses 43 = .ok (.bipush 40, 2) := by decide +kernel
theorem dL_refuses_45 : decode cL_refuses 45 = .ok (.iconst 1, 1) := by decide +kernel
theorem dL_refuses_46 : decode cL_refuses 46 = .ok (.invokestatic 142, 3) := by decide +kernel
theorem dL_refuses_49 : decode cL_refuses 49 = .ok (.bipush (-11), 2) := by decide +kernel
theorem dL_refuses_51 : decode cL_refuses 51 = .ok (.if_icmp .ne 146, 3) := by decide +kernel
theorem dL_refuses_54 : decode cL_refuses 54 = .ok (.aload_n 0, 1) := by decide +kernel
theorem dL_refuses_55 : decode cL_refuses 55 = .ok (.iconst 5, 1) := by decide +kernel
theorem dL_refuses_56 : decode cL_refuses 56 = .ok (.iconst 4, 1) := by decide +kernel
theorem dL_refuses_57 : decode cL_refuses 57 = .ok (.iconst 1, 1) := by decide +kernel
theorem dL_refuses_58 : decode cL_refuses 58 = .ok (.invokestatic 142, 3) := by decide +kernel
theorem dL_refuses_61 : decode cL_refuses 61 = .ok (.bipush (-11), 2) := by decide +kernel
theorem dL_refuses_63 : decode cL_refuses 63 = .ok (.if_icmp .ne 134, 3) := by decide +kernel
theorem dL_refuses_66 : decode cL_refuses 66 = .ok (.aload_n 0, 1) := by decide +kernel
theorem dL_refuses_67 : decode cL_refuses 67 = .ok (.iconst 0, 1) := by decide +kernel
theorem dL_refuses_68 : decode cL_refuses 68 = .ok (.bipush 40, 2) := by decide +kernel
theorem dL_refuses_70 : decode cL_refuses 70 = .ok (.iconst 0, 1) := by decide +kernel
theorem dL_refuses_71 : decode cL_refuses 71 = .ok (.invokestatic 142, 3) := by decide +kernel
theorem dL_refuses_74 : decode cL_refuses 74 = .ok (.bipush (-11), 2) := by decide +kernel
theorem dL_refuses_76 : decode cL_refuses 76 = .ok (.if_icmp .ne 121, 3) := by decide +kernel
theorem dL_refuses_79 : decode cL_refuses 79 = .ok (.aload_n 0, 1) := by decide +kernel
theorem dL_refuses_80 : decode cL_refuses 80 = .ok (.iconst 4, 1) := by decide +kernel
theorem dL_refuses_81 : decode cL_refuses 81 = .ok (.iconst 1, 1) := by decide +kernel
theorem dL_refuses_82 : decode cL_refuses 82 = .ok (.invokestatic 145, 3) := by decide +kernel
theorem dL_refuses_85 : decode cL_refuses 85 = .ok (.bipush (-11), 2) := by decide +kernel
theorem dL_refuses_87 : decode cL_refuses 87 = .ok (.if_icmp .ne 110, 3) := by decide +kernel
theorem dL_refuses_90 : decode cL_refuses 90 = .ok (.aload_n 0, 1) := by decide +kernel
theorem dL_refuses_91 : decode cL_refuses 91 = .ok (.iconst 0, 1) := by decide +kernel
theorem dL_refuses_92 : decode cL_refuses 92 = .ok (.iconst 0, 1) := by decide +kernel
theorem dL_refuses_93 : decode cL_refuses 93 = .ok (.invokestatic 145, 3) := by decide +kernel
theorem dL_refuses_96 : decode cL_refuses 96 = .ok (.bipush (-11), 2) := by decide +kernel
theorem dL_refuses_98 : decode cL_refuses 98 = .ok (.if_icmp .ne 99, 3) := by decide +kernel
theorem dL_refuses_101 : decode cL_refuses 101 = .ok (.aload_n 0, 1) := by decide +kernel
theorem dL_refuses_102 : decode cL_refuses 102 = .ok (.iconst 1, 1) := by decide +kernel
theorem dL_refuses_103 : decode cL_refuses 103 = .ok (.bipush 51, 2) := by decide +kernel
theorem dL_refuses_105 : decode cL_refuses 105 = .ok (.invokestatic 145, 3) := by decide +kernel
theorem dL_refuses_108 : decode cL_refuses 108 = .ok (.bipush (-11), 2) := by decide +kernel
theorem dL_refuses_110 : decode cL_refuses 110 = .ok (.if_icmp .ne 87, 3) := by decide +kernel
theorem dL_refuses_113 : decode cL_refuses 113 = .ok (.aload_n 0, 1) := by decide +kernel
theorem dL_refuses_114 : decode cL_refuses 114 = .ok (.iconst 3, 1) := by decide +kernel
theorem dL_refuses_115 : decode cL_refuses 115 = .ok (.sipush 2001, 3) := by decide +kernel
theorem dL_refuses_118 : decode cL_refuses 118 = .ok (.invokestatic 145, 3) := by decide +kernel
theorem dL_refuses_121 : decode cL_refuses 121 = .ok (.bipush (-11), 2) := by decide +kernel
theorem dL_refuses_123 : decode cL_refuses 123 = .ok (.if_icmp .ne 74, 3) := by decide +kernel
theorem dL_refuses_126 : decode cL_refuses 126 = .ok (.aload_n 0, 1) := by decide +kernel
theorem dL_refuses_127 : decode cL_refuses 127 = .ok (.iload_n 3, 1) := by decide +kernel
theorem dL_refuses_128 : decode cL_refuses 128 = .ok (.iconst 1, 1) := by decide +kernel
theorem dL_refuses_129 : decode cL_refuses 129 = .ok (.invokestatic 134, 3) := by decide +kernel
theorem dL_refuses_132 : decode cL_refuses 132 = .ok (.bipush (-11), 2) := by decide +kernel
theorem dL_refuses_134 : decode cL_refuses 134 = .ok (.if_icmp .ne 63, 3) := by decide +kernel
theorem dL_refuses_137 : decode cL_refuses 137 = .ok (.aload_n 0, 1) := by decide +kernel
theorem dL_refuses_138 : decode cL_refuses 138 = .ok (.iconst 0, 1) := by decide +kernel
theorem dL_refuses_139 : decode cL_refuses 139 = .ok (.iconst 0, 1) := by decide +kernel
theorem dL_refuses_140 : decode cL_refuses 140 = .ok (.invokestatic 134, 3) := by decide +kernel
theorem dL_refuses_143 : decode cL_refuses 143 = .ok (.bipush (-12), 2) := by decide +kernel
theorem dL_refuses_145 : decode cL_refuses 145 = .ok (.if_icmp .ne 52, 3) := by decide +kernel
theorem dL_refuses_148 : decode cL_refuses 148 = .ok (.aload_n 0, 1) := by decide +kernel
theorem dL_refuses_149 : decode cL_refuses 149 = .ok (.iconst 0, 1) := by decide +kernel
theorem dL_refuses_150 : decode cL_refuses 150 = .ok (.bipush 10, 2) := by decide +kernel
theorem dL_refuses_152 : decode cL_refuses 152 = .ok (.invokestatic 134, 3) := by decide +kernel
theorem dL_refuses_155 : decode cL_refuses 155 = .ok (.bipush (-12), 2) := by decide +kernel
theorem dL_refuses_157 : decode cL_refuses 157 = .ok (.if_icmp .ne 40, 3) := by decide +kernel
theorem dL_refuses_160 : decode cL_refuses 160 = .ok (.aload_n 0, 1) := by decide +kernel
theorem dL_refuses_161 : decode cL_refuses 161 = .ok (.iload 4, 2) := by decide +kernel
theorem dL_refuses_163 : decode cL_refuses 163 = .ok (.invokestatic 119, 3) := by decide +kernel
theorem dL_refuses_166 : decode cL_refuses 166 = .ok (.bipush (-11), 2) := by decide +kernel
theorem dL_refuses_168 : decode cL_refuses 168 = .ok (.if_icmp .ne 29, 3) := by decide +kernel
theorem dL_refuses_171 : decode cL_refuses 171 = .ok (.aload_n 0, 1) := by decide +kernel
theorem dL_refuses_172 : decode cL_refuses 172 = .ok (.iconst (-1), 1) := by decide +kernel
theorem dL_refuses_173 : decode cL_refuses 173 = .ok (.iconst 1, 1) := by decide +kernel
theorem dL_refuses_174 : decode cL_refuses 174 = .ok (.invokestatic 147, 3) := by decide +kernel
theorem dL_refuses_177 : decode cL_refuses 177 = .ok (.bipush (-11), 2) := by decide +kernel
theorem dL_refuses_179 : decode cL_refuses 179 = .ok (.if_icmp .ne 18, 3) := by decide +kernel
theorem dL_refuses_182 : decode cL_refuses 182 = .ok (.aload_n 0, 1) := by decide +kernel
theorem dL_refuses_183 : decode cL_refuses 183 = .ok (.iload 4, 2) := by decide +kernel
theorem dL_refuses_185 : decode cL_refuses 185 = .ok (.invokestatic 150, 3) := by decide +kernel
theorem dL_refuses_188 : decode cL_refuses 188 = .ok (.bipush (-11), 2) := by decide +kernel
theorem dL_refuses_190 : decode cL_refuses 190 = .ok (.if_icmp .ne 7, 3) := by decide +kernel
theorem dL_refuses_193 : decode cL_refuses 193 = .ok (.iconst 1, 1) := by decide +kernel
theorem dL_refuses_194 : decode cL_refuses 194 = .ok (.goto 4, 3) := by decide +kernel
theorem dL_refuses_197 : decode cL_refuses 197 = .ok (.iconst 0, 1) := by decide +kernel
theorem dL_refuses_198 : decode cL_refuses 198 = .ok (.istore 5, 2) := by decide +kernel
theorem dL_refuses_200 : decode cL_refuses 200 = .ok (.iload 5, 2) := by decide +kernel
theorem dL_refuses_202 : decode cL_refuses 202 = .ok (.ifCond .eq 162, 3) := by decide +kernel
theorem dL_refuses_205 : decode cL_refuses 205 = .ok (.aload_n 0, 1) := by decide +kernel
theorem dL_refuses_206 : decode cL_refuses 206 = .ok (.iconst 0, 1) := by decide +kernel
theorem dL_refuses_207 : decode cL_refuses 207 = .ok (.iload_n 3, 1) := by decide +kernel
theorem dL_refuses_208 : decode cL_refuses 208 = .ok (.iconst 1, 1) := by decide +kernel
theorem dL_refuses_209 : decode cL_refuses 209 = .ok (.bipush 39, 2) := by decide +kernel
theorem dL_refuses_211 : decode cL_refuses 211 = .ok (.invokestatic 152, 3) := by decide +kernel
theorem dL_refuses_214 : decode cL_refuses 214 = .ok (.bipush (-11), 2) := by decide +kernel
theorem dL_refuses_216 : decode cL_refuses 216 = .ok (.if_icmp .ne 148, 3) := by decide +kernel
theorem dL_refuses_219 : decode cL_refuses 219 = .ok (.aload_n 0, 1) := by decide +kernel
theorem dL_refuses_220 : decode cL_refuses 220 = .ok (.iconst 0, 1) := by decide +kernel
theorem dL_refuses_221 : decode cL_refuses 221 = .ok (.iconst 0, 1) := by decide +kernel
theorem dL_refuses_222 : decode cL_refuses 222 = .ok (.iconst 1, 1) := by decide +kernel
theorem dL_refuses_223 : decode cL_refuses 223 = .ok (.bipush 39, 2) := by decide +kernel
theorem dL_refuses_225 : decode cL_refuses 225 = .ok (.invokestatic 152, 3) := by decide +kernel
theorem dL_refuses_228 : decode cL_refuses 228 = .ok (.bipush (-12), 2) := by decide +kernel
theorem dL_refuses_230 : decode cL_refuses 230 = .ok (.if_icmp .ne 134, 3) := by decide +kernel
theorem dL_refuses_233 : decode cL_refuses 233 = .ok (.aload_n 0, 1) := by decide +kernel
theorem dL_refuses_234 : decode cL_refuses 234 = .ok (.iconst 0, 1) := by decide +kernel
theorem dL_refuses_235 : decode cL_refuses 235 = .ok (.iconst 1, 1) := by decide +kernel
theorem dL_refuses_236 : decode cL_refuses 236 = .ok (.iconst 0, 1) := by decide +kernel
theorem dL_refuses_237 : decode cL_refuses 237 = .ok (.bipush 39, 2) := by decide +kernel
theorem dL_refuses_239 : decode cL_refuses 239 = .ok (.invokestatic 152, 3) := by decide +kernel
theorem dL_refuses_242 : decode cL_refuses 242 = .ok (.bipush (-12), 2) := by decide +kernel
theorem dL_refuses_244 : decode cL_refuses 244 = .ok (.if_icmp .ne 120, 3) := by decide +kernel
theorem dL_refuses_247 : decode cL_refuses 247 = .ok (.aload_n 0, 1) := by decide +kernel
theorem dL_refuses_248 : decode cL_refuses 248 = .ok (.iconst 0, 1) := by decide +kernel
theorem dL_refuses_249 : decode cL_refuses 249 = .ok (.iconst 1, 1) := by decide +kernel
theorem dL_refuses_250 : decode cL_refuses 250 = .ok (.sipush 501, 3) := by decide +kernel
theorem dL_refuses_253 : decode cL_refuses 253 = .ok (.bipush 39, 2) := by decide +kernel
theorem dL_refuses_255 : decode cL_refuses 255 = .ok (.invokestatic 152, 3) := by decide +kernel
theorem dL_refuses_258 : decode cL_refuses 258 = .ok (.bipush (-12), 2) := by decide +kernel
theorem dL_refuses_260 : decode cL_refuses 260 = .ok (.if_icmp .ne 104, 3) := by decide +kernel
theorem dL_refuses_263 : decode cL_refuses 263 = .ok (.aload_n 0, 1) := by decide +kernel
theorem dL_refuses_264 : decode cL_refuses 264 = .ok (.iconst 0, 1) := by decide +kernel
theorem dL_refuses_265 : decode cL_refuses 265 = .ok (.iconst 1, 1) := by decide +kernel
theorem dL_refuses_266 : decode cL_refuses 266 = .ok (.iconst 1, 1) := by decide +kernel
theorem dL_refuses_267 : decode cL_refuses 267 = .ok (.bipush 40, 2) := by decide +kernel
theorem dL_refuses_269 : decode cL_refuses 269 = .ok (.invokestatic 152, 3) := by decide +kernel
theorem dL_refuses_272 : decode cL_refuses 272 = .ok (.bipush (-12), 2) := by decide +kernel
theorem dL_refuses_274 : decode cL_refuses 274 = .ok (.if_icmp .ne 90, 3) := by decide +kernel
theorem dL_refuses_277 : decode cL_refuses 277 = .ok (.aload_n 0, 1) := by decide +kernel
theorem dL_refuses_278 : decode cL_refuses 278 = .ok (.aload_n 0, 1) := by decide +kernel
theorem dL_refuses_279 : decode cL_refuses 279 = .ok (.iconst 2, 1) := by decide +kernel
theorem dL_refuses_280 : decode cL_refuses 280 = .ok (.invokestatic 92, 3) := by decide +kernel
theorem dL_refuses_283 : decode cL_refuses 283 = .ok (.iconst 1, 1) := by decide +kernel
theorem dL_refuses_284 : decode cL_refuses 284 = .ok (.invokestatic 155, 3) := by decide +kernel
theorem dL_refuses_287 : decode cL_refuses 287 = .ok (.bipush (-11), 2) := by decide +kernel
theorem dL_refuses_289 : decode cL_refuses 289 = .ok (.if_icmp .ne 75, 3) := by decide +kernel
theorem dL_refuses_292 : decode cL_refuses 292 = .ok (.aload_n 0, 1) := by decide +kernel
theorem dL_refuses_293 : decode cL_refuses 293 = .ok (.iconst 0, 1) := by decide +kernel
theorem dL_refuses_294 : decode cL_refuses 294 = .ok (.bipush 11, 2) := by decide +kernel
theorem dL_refuses_296 : decode cL_refuses 296 = .ok (.invokestatic 99, 3) := by decide +kernel
theorem dL_refuses_299 : decode cL_refuses 299 = .ok (.bipush (-12), 2) := by decide +kernel
theorem dL_refuses_301 : decode cL_refuses 301 = .ok (.if_icmp .ne 63, 3) := by decide +kernel
theorem dL_refuses_304 : decode cL_refuses 304 = .ok (.aload_n 0, 1) := by decide +kernel
theorem dL_refuses_305 : decode cL_refuses 305 = .ok (.iload 4, 2) := by decide +kernel
theorem dL_refuses_307 : decode cL_refuses 307 = .ok (.bipush 9, 2) := by decide +kernel
theorem dL_refuses_309 : decode cL_refuses 309 = .ok (.invokestatic 106, 3) := by decide +kernel
theorem dL_refuses_312 : decode cL_refuses 312 = .ok (.bipush (-11), 2) := by decide +kernel
theorem dL_refuses_314 : decode cL_refuses 314 = .ok (.if_icmp .ne 50, 3) := by decide +kernel
theorem dL_refuses_317 : decode cL_refuses 317 = .ok (.aload_n 0, 1) := by decide +kernel
theorem dL_refuses_318 : decode cL_refuses 318 = .ok (.iconst (-1), 1) := by decide +kernel
theorem dL_refuses_319 : decode cL_refuses 319 = .ok (.iconst 0, 1) := by decide +kernel
theorem dL_refuses_320 : decode cL_refuses 320 = .ok (.invokestatic 112, 3) := by decide +kernel
theorem dL_refuses_323 : decode cL_refuses 323 = .ok (.bipush (-11), 2) := by decide +kernel
theorem dL_refuses_325 : decode cL_refuses 325 = .ok (.if_icmp .ne 39, 3) := by decide +kernel
theorem dL_refuses_328 : decode cL_refuses 328 = .ok (.aload_n 0, 1) := by decide +kernel
theorem dL_refuses_329 : decode cL_refuses 329 = .ok (.iconst (-1), 1) := by decide +kernel
theorem dL_refuses_330 : decode cL_refuses 330 = .ok (.invokestatic 110, 3) := by decide +kernel
theorem dL_refuses_333 : decode cL_refuses 333 = .ok (.bipush (-11), 2) := by decide +kernel
theorem dL_refuses_335 : decode cL_refuses 335 = .ok (.if_icmp .ne 29, 3) := by decide +kernel
theorem dL_refuses_338 : decode cL_refuses 338 = .ok (.aload_n 0, 1) := by decide +kernel
theorem dL_refuses_339 : decode cL_refuses 339 = .ok (.bipush 40, 2) := by decide +kernel
theorem dL_refuses_341 : decode cL_refuses 341 = .ok (.invokestatic 157, 3) := by decide +kernel
theorem dL_refuses_344 : decode cL_refuses 344 = .ok (.bipush (-11), 2) := by decide +kernel
theorem dL_refuses_346 : decode cL_refuses 346 = .ok (.if_icmp .ne 18, 3) := by decide +kernel
theorem dL_refuses_349 : decode cL_refuses 349 = .ok (.aload_n 0, 1) := by decide +kernel
theorem dL_refuses_350 : decode cL_refuses 350 = .ok (.bipush 18, 2) := by decide +kernel
theorem dL_refuses_352 : decode cL_refuses 352 = .ok (.invokestatic 92, 3) := by decide +kernel
theorem dL_refuses_355 : decode cL_refuses 355 = .ok (.bipush (-11), 2) := by decide +kernel
theorem dL_refuses_357 : decode cL_refuses 357 = .ok (.if_icmp .ne 7, 3) := by decide +kernel
theorem dL_refuses_360 : decode cL_refuses 360 = .ok (.iconst 1, 1) := by decide +kernel
theorem dL_refuses_361 : decode cL_refuses 361 = .ok (.goto 4, 3) := by decide +kernel
theorem dL_refuses_364 : decode cL_refuses 364 = .ok (.iconst 0, 1) := by decide +kernel
theorem dL_refuses_365 : decode cL_refuses 365 = .ok (.istore 5, 2) := by decide +kernel
theorem dL_refuses_367 : decode cL_refuses 367 = .ok (.iload 5, 2) := by decide +kernel
theorem dL_refuses_369 : decode cL_refuses 369 = .ok (.ifCond .eq 117, 3) := by decide +kernel
theorem dL_refuses_372 : decode cL_refuses 372 = .ok (.aload_n 0, 1) := by decide +kernel
theorem dL_refuses_373 : decode cL_refuses 373 = .ok (.iload 4, 2) := by decide +kernel
theorem dL_refuses_375 : decode cL_refuses 375 = .ok (.invokestatic 108, 3) := by decide +kernel
theorem dL_refuses_378 : decode cL_refuses 378 = .ok (.bipush (-11), 2) := by decide +kernel
theorem dL_refuses_380 : decode cL_refuses 380 = .ok (.if_icmp .ne 106, 3) := by decide +kernel
theorem dL_refuses_383 : decode cL_refuses 383 = .ok (.aload_n 0, 1) := by decide +kernel
theorem dL_refuses_384 : decode cL_refuses 384 = .ok (.iload_n 3, 1) := by decide +kernel
theorem dL_refuses_385 : decode cL_refuses 385 = .ok (.invokestatic 102, 3) := by decide +kernel
theorem dL_refuses_388 : decode cL_refuses 388 = .ok (.bipush (-11), 2) := by decide +kernel
theorem dL_refuses_390 : decode cL_refuses 390 = .ok (.if_icmp .ne 96, 3) := by decide +kernel
theorem dL_refuses_393 : decode cL_refuses 393 = .ok (.aload_n 0, 1) := by decide +kernel
theorem dL_refuses_394 : decode cL_refuses 394 = .ok (.iconst 0, 1) := by decide +kernel
theorem dL_refuses_395 : decode cL_refuses 395 = .ok (.bipush 10, 2) := by decide +kernel
theorem dL_refuses_397 : decode cL_refuses 397 = .ok (.invokestatic 114, 3) := by decide +kernel
theorem dL_refuses_400 : decode cL_refuses 400 = .ok (.bipush (-12), 2) := by decide +kernel
theorem dL_refuses_402 : decode cL_refuses 402 = .ok (.if_icmp .ne 84, 3) := by decide +kernel
theorem dL_refuses_405 : decode cL_refuses 405 = .ok (.aload_n 0, 1) := by decide +kernel
theorem dL_refuses_406 : decode cL_refuses 406 = .ok (.iconst (-1), 1) := by decide +kernel
theorem dL_refuses_407 : decode cL_refuses 407 = .ok (.iconst 1, 1) := by decide +kernel
theorem dL_refuses_408 : decode cL_refuses 408 = .ok (.invokestatic 114, 3) := by decide +kernel
theorem dL_refuses_411 : decode cL_refuses 411 = .ok (.bipush (-11), 2) := by decide +kernel
theorem dL_refuses_413 : decode cL_refuses 413 = .ok (.if_icmp .ne 73, 3) := by decide +kernel
theorem dL_refuses_416 : decode cL_refuses 416 = .ok (.aload_n 0, 1) := by decide +kernel
theorem dL_refuses_417 : decode cL_refuses 417 = .ok (.iconst 0, 1) := by decide +kernel
theorem dL_refuses_418 : decode cL_refuses 418 = .ok (.iconst 0, 1) := by decide +kernel
theorem dL_refuses_419 : decode cL_refuses 419 = .ok (.invokestatic 104, 3) := by decide +kernel
theorem dL_refuses_422 : decode cL_refuses 422 = .ok (.bipush (-12), 2) := by decide +kernel
theorem dL_refuses_424 : decode cL_refuses 424 = .ok (.if_icmp .ne 62, 3) := by decide +kernel
theorem dL_refuses_427 : decode cL_refuses 427 = .ok (.aload_n 0, 1) := by decide +kernel
theorem dL_refuses_428 : decode cL_refuses 428 = .ok (.bipush 40, 2) := by decide +kernel
theorem dL_refuses_430 : decode cL_refuses 430 = .ok (.invokestatic 97, 3) := by decide +kernel
theorem dL_refuses_433 : decode cL_refuses 433 = .ok (.bipush (-11), 2) := by decide +kernel
theorem dL_refuses_435 : decode cL_refuses 435 = .ok (.if_icmp .ne 51, 3) := by decide +kernel
theorem dL_refuses_438 : decode cL_refuses 438 = .ok (.aload_n 0, 1) := by decide +kernel
theorem dL_refuses_439 : decode cL_refuses 439 = .ok (.iconst (-1), 1) := by decide +kernel
theorem dL_refuses_440 : decode cL_refuses 440 = .ok (.invokestatic 121, 3) := by decide +kernel
theorem dL_refuses_443 : decode cL_refuses 443 = .ok (.bipush (-11), 2) := by decide +kernel
theorem dL_refuses_445 : decode cL_refuses 445 = .ok (.if_icmp .ne 41, 3) := by decide +kernel
theorem dL_refuses_448 : decode cL_refuses 448 = .ok (.aload_n 0, 1) := by decide +kernel
theorem dL_refuses_449 : decode cL_refuses 449 = .ok (.sipush 128, 3) := by decide +kernel
theorem dL_refuses_452 : decode cL_refuses 452 = .ok (.invokestatic 121, 3) := by decide +kernel
theorem dL_refuses_455 : decode cL_refuses 455 = .ok (.bipush (-11), 2) := by decide +kernel
theorem dL_refuses_457 : decode cL_refuses 457 = .ok (.if_icmp .ne 29, 3) := by decide +kernel
theorem dL_refuses_460 : decode cL_refuses 460 = .ok (.aload_n 0, 1) := by decide +kernel
theorem dL_refuses_461 : decode cL_refuses 461 = .ok (.bipush 8, 2) := by decide +kernel
theorem dL_refuses_463 : decode cL_refuses 463 = .ok (.invokestatic 92, 3) := by decide +kernel
theorem dL_refuses_466 : decode cL_refuses 466 = .ok (.ifCond .eq 16, 3) := by decide +kernel
theorem dL_refuses_469 : decode cL_refuses 469 = .ok (.aload_n 0, 1) := by decide +kernel
theorem dL_refuses_470 : decode cL_refuses 470 = .ok (.iconst 0, 1) := by decide +kernel
theorem dL_refuses_471 : decode cL_refuses 471 = .ok (.bipush 39, 2) := by decide +kernel
theorem dL_refuses_473 : decode cL_refuses 473 = .ok (.iconst 1, 1) := by decide +kernel
theorem dL_refuses_474 : decode cL_refuses 474 = .ok (.invokestatic 142, 3) := by decide +kernel
theorem dL_refuses_477 : decode cL_refuses 477 = .ok (.bipush (-12), 2) := by decide +kernel
theorem dL_refuses_479 : decode cL_refuses 479 = .ok (.if_icmp .ne 7, 3) := by decide +kernel
theorem dL_refuses_482 : decode cL_refuses 482 = .ok (.iconst 1, 1) := by decide +kernel
theorem dL_refuses_483 : decode cL_refuses 483 = .ok (.goto 4, 3) := by decide +kernel
theorem dL_refuses_486 : decode cL_refuses 486 = .ok (.iconst 0, 1) := by decide +kernel
theorem dL_refuses_487 : decode cL_refuses 487 = .ok (.istore 5, 2) := by decide +kernel
theorem dL_refuses_489 : decode cL_refuses 489 = .ok (.iload 5, 2) := by decide +kernel
theorem dL_refuses_491 : decode cL_refuses 491 = .ok (.ifCond .eq 16, 3) := by decide +kernel
theorem dL_refuses_494 : decode cL_refuses 494 = .ok (.aload_n 0, 1) := by decide +kernel
theorem dL_refuses_495 : decode cL_refuses 495 = .ok (.invokevirtual 136, 3) := by decide +kernel
theorem dL_refuses_498 : decode cL_refuses 498 = .ok (.lload_n 1, 1) := by decide +kernel
theorem dL_refuses_499 : decode cL_refuses 499 = .ok (.lcmp, 1) := by decide +kernel
theorem dL_refuses_500 : decode cL_refuses 500 = .ok (.ifCond .ne 7, 3) := by decide +kernel
theorem dL_refuses_503 : decode cL_refuses 503 = .ok (.iconst 1, 1) := by decide +kernel
theorem dL_refuses_504 : decode cL_refuses 504 = .ok (.goto 4, 3) := by decide +kernel
theorem dL_refuses_507 : decode cL_refuses 507 = .ok (.iconst 0, 1) := by decide +kernel
theorem dL_refuses_508 : decode cL_refuses 508 = .ok (.ireturn, 1) := by decide +kernel
theorem dL_acts_0 : decode cL_acts 0 = .ok (.iload_n 1, 1) := by decide +kernel
theorem dL_acts_1 : decode cL_acts 1 = .ok (.iconst 4, 1) := by decide +kernel
theorem dL_acts_2 : decode cL_acts 2 = .ok (.ishr, 1) := by decide +kernel
theorem dL_acts_3 : decode cL_acts 3 = .ok (.istore_n 2, 1) := by decide +kernel
theorem dL_acts_4 : decode cL_acts 4 = .ok (.iload_n 2, 1) := by decide +kernel
theorem dL_acts_5 : decode cL_acts 5 = .ok (.aload_n 0, 1) := by decide +kernel
theorem dL_acts_6 : decode cL_acts 6 = .ok (.iconst 0, 1) := by decide +kernel
theorem dL_acts_7 : decode cL_acts 7 = .ok (.invokestatic 92, 3) := by decide +kernel
theorem dL_acts_10 : decode cL_acts 10 = .ok (.irem, 1) := by decide +kernel
theorem dL_acts_11 : decode cL_acts 11 = .ok (.istore_n 3, 1) := by decide +kernel
theorem dL_acts_12 : decode cL_acts 12 = .ok (.iload_n 2, 1) := by decide +kernel
theorem dL_acts_13 : decode cL_acts 13 = .ok (.bipush 8, 2) := by decide +kernel
theorem dL_acts_15 : decode cL_acts 15 = .ok (.idiv, 1) := by decide +kernel
theorem dL_acts_16 : decode cL_acts 16 = .ok (.aload_n 0, 1) := by decide +kernel
theorem dL_acts_17 : decode cL_acts 17 = .ok (.iconst 1, 1) := by decide +kernel
theorem dL_acts_18 : decode cL_acts 18 = .ok (.invokestatic 92, 3) := by decide +kernel
theorem dL_acts_21 : decode cL_acts 21 = .ok (.iconst 1, 1) := by decide +kernel
theorem dL_acts_22 : decode cL_acts 22 = .ok (.iadd, 1) := by decide +kernel
theorem dL_acts_23 : decode cL_acts 23 = .ok (.irem, 1) := by decide +kernel
theorem dL_acts_24 : decode cL_acts 24 = .ok (.istore 4, 2) := by decide +kernel
theorem dL_acts_26 : decode cL_acts 26 = .ok (.iload_n 1, 1) := by decide +kernel
theorem dL_acts_27 : decode cL_acts 27 = .ok (.bipush 15, 2) := by decide +kernel
theorem dL_acts_29 : decode cL_acts 29 = .ok (.iand, 1) := by decide +kernel
theorem dL_acts_30 : decode cL_acts 30 = .ok (.tableswitch 356 0 14 #[74, 93, 128, 152, 152, 152, 177, 183, 183, 216, 233, 233, 284, 317, 332], 74) := by decide +kernel
theorem dL_acts_104 : decode cL_acts 104 = .ok (.aload_n 0, 1) := by decide +kernel
theorem dL_acts_105 : decode cL_acts 105 = .ok (.iload_n 2, 1) := by decide +kernel
theorem dL_acts_106 : decode cL_acts 106 = .ok (.bipush 100, 2) := by decide +kernel
theorem dL_acts_108 : decode cL_acts 108 = .ok (.irem, 1) := by decide +kernel
theorem dL_acts_109 : decode cL_acts 109 = .ok (.invokestatic 140, 3) := by decide +kernel
theorem dL_acts_112 : decode cL_acts 112 = .ok (.bipush (-11), 2) := by decide +kernel
theorem dL_acts_114 : decode cL_acts 114 = .ok (.if_icmp .eq 7, 3) := by decide +kernel
theorem dL_acts_117 : decode cL_acts 117 = .ok (.iconst 1, 1) := by decide +kernel
theorem dL_acts_118 : decode cL_acts 118 = .ok (.goto 4, 3) := by decide +kernel
theorem dL_acts_121 : decode cL_acts 121 = .ok (.iconst 0, 1) := by decide +kernel
theorem dL_acts_122 : decode cL_acts 122 = .ok (.ireturn, 1) := by decide +kernel
theorem dL_acts_123 : decode cL_acts 123 = .ok (.aload_n 0, 1) := by decide +kernel
theorem dL_acts_124 : decode cL_acts 124 = .ok (.iload_n 2, 1) := by decide +kernel
theorem dL_acts_125 : decode cL_acts 125 = .ok (.bipush 40, 2) := by decide +kernel
theorem dL_acts_127 : decode cL_acts 127 = .ok (.irem, 1) := by decide +kernel
theorem dL_acts_128 : decode cL_acts 128 = .ok (.bipush 39, 2) := by decide +kernel
theorem dL_acts_130 : decode cL_acts 130 = .ok (.iload_n 2, 1) := by decide +kernel
theorem dL_acts_131 : decode cL_acts 131 = .ok (.bipush 64, 2) := by decide +kernel
theorem dL_acts_133 : decode cL_acts 133 = .ok (.idiv, 1) := by decide +kernel
theorem dL_acts_134 : decode cL_acts 134 = .ok (.iconst 3, 1) := by decide +kernel
theorem dL_acts_135 : decode cL_acts 135 = .ok (.iand, 1) := by decide +kernel
theorem dL_acts_136 : decode cL_acts 136 = .ok (.ifCond .le 7, 3) := by decide +kernel
theorem dL_acts_139 : decode cL_acts 139 = .ok (.iconst 1, 1) := by decide +kernel
theorem dL_acts_140 : decode cL_acts 140 = .ok (.goto 4, 3) := by decide +kernel
theorem dL_acts_143 : decode cL_acts 143 = .ok (.iconst 0, 1) := by decide +kernel
theorem dL_acts_144 : decode cL_acts 144 = .ok (.invokestatic 142, 3) := by decide +kernel
theorem dL_acts_147 : decode cL_acts 147 = .ok (.bipush (-11), 2) := by decide +kernel
theorem dL_acts_149 : decode cL_acts 149 = .ok (.if_icmp .eq 7, 3) := by decide +kernel
theorem dL_acts_152 : decode cL_acts 152 = .ok (.iconst 1, 1) := by decide +kernel
theorem dL_acts_153 : decode cL_acts 153 = .ok (.goto 4, 3) := by decide +kernel
theorem dL_acts_156 : decode cL_acts 156 = .ok (.iconst 0, 1) := by decide +kernel
theorem dL_acts_157 : decode cL_acts 157 = .ok (.ireturn, 1) := by decide +kernel
theorem dL_acts_158 : decode cL_acts 158 = .ok (.aload_n 0, 1) := by decide +kernel
theorem dL_acts_159 : decode cL_acts 159 = .ok (.iload_n 2, 1) := by decide +kernel
theorem dL_acts_160 : decode cL_acts 160 = .ok (.iconst 3, 1) := by decide +kernel
theorem dL_acts_161 : decode cL_acts 161 = .ok (.iand, 1) := by decide +kernel
theorem dL_acts_162 : decode cL_acts 162 = .ok (.iconst 1, 1) := by decide +kernel
theorem dL_acts_163 : decode cL_acts 163 = .ok (.iload_n 2, 1) := by decide +kernel
theorem dL_acts_164 : decode cL_acts 164 = .ok (.iconst 4, 1) := by decide +kernel
theorem dL_acts_165 : decode cL_acts 165 = .ok (.idiv, 1) := by decide +kernel
theorem dL_acts_166 : decode cL_acts 166 = .ok (.bipush 20, 2) := by decide +kernel
theorem dL_acts_168 : decode cL_acts 168 = .ok (.irem, 1) := by decide +kernel
theorem dL_acts_169 : decode cL_acts 169 = .ok (.iadd, 1) := by decide +kernel
theorem dL_acts_170 : decode cL_acts 170 = .ok (.invokestatic 145, 3) := by decide +kernel
theorem dL_acts_173 : decode cL_acts 173 = .ok (.ifCond .lt 7, 3) := by decide +kernel
theorem dL_acts_176 : decode cL_acts 176 = .ok (.iconst 1, 1) := by decide +kernel
theorem dL_acts_177 : decode cL_acts 177 = .ok (.goto 4, 3) := by decide +kernel
theorem dL_acts_180 : decode cL_acts 180 = .ok (.iconst 0, 1) := by decide +kernel
theorem dL_acts_181 : decode cL_acts 181 = .ok (.ireturn, 1) := by decide +kernel
theorem dL_acts_182 : decode cL_acts 182 = .ok (.aload_n 0, 1) := by decide +kernel
theorem dL_acts_183 : decode cL_acts 183 = .ok (.iload_n 3, 1) := by decide +kernel
theorem dL_acts_184 : decode cL_acts 184 = .ok (.iconst 1, 1) := by decide +kernel
theorem dL_acts_185 : decode cL_acts 185 = .ok (.iload_n 2, 1) := by decide +kernel
theorem dL_acts_186 : decode cL_acts 186 = .ok (.bipush 64, 2) := by decide +kernel
theorem dL_acts_188 : decode cL_acts 188 = .ok (.idiv, 1) := by decide +kernel
theorem dL_acts_189 : decode cL_acts 189 = .ok (.bipush 9, 2) := by decide +kernel
theorem dL_acts_191 : decode cL_acts 191 = .ok (.irem, 1) := by decide +kernel
theorem dL_acts_192 : decode cL_acts 192 = .ok (.iadd, 1) := by decide +kernel
theorem dL_acts_193 : decode cL_acts 193 = .ok (.invokestatic 134, 3) := by decide +kernel
theorem dL_acts_196 : decode cL_acts 196 = .ok (.bipush (-11), 2) := by decide +kernel
theorem dL_acts_198 : decode cL_acts 198 = .ok (.if_icmp .eq 7, 3) := by decide +kernel
theorem dL_acts_201 : decode cL_acts 201 = .ok (.iconst 1, 1) := by decide +kernel
theorem dL_acts_202 : decode cL_acts 202 = .ok (.goto 4, 3) := by decide +kernel
theorem dL_acts_205 : decode cL_acts 205 = .ok (.iconst 0, 1) := by decide +kernel
theorem dL_acts_206 : decode cL_acts 206 = .ok (.ireturn, 1) := by decide +kernel
theorem dL_acts_207 : decode cL_acts 207 = .ok (.aload_n 0, 1) := by decide +kernel
theorem dL_acts_208 : decode cL_acts 208 = .ok (.iload_n 3, 1) := by decide +kernel
theorem dL_acts_209 : decode cL_acts 209 = .ok (.invokestatic 159, 3) := by decide +kernel
theorem dL_acts_212 : decode cL_acts 212 = .ok (.ireturn, 1) := by decide +kernel
theorem dL_acts_213 : decode cL_acts 213 = .ok (.aload_n 0, 1) := by decide +kernel
theorem dL_acts_214 : decode cL_acts 214 = .ok (.iload 4, 2) := by decide +kernel
theorem dL_acts_216 : decode cL_acts 216 = .ok (.iload_n 2, 1) := by decide +kernel
theorem dL_acts_217 : decode cL_acts 217 = .ok (.sipush 512, 3) := by decide +kernel
theorem dL_acts_220 : decode cL_acts 220 = .ok (.idiv, 1) := by decide +kernel
theorem dL_acts_221 : decode cL_acts 221 = .ok (.iconst 1, 1) := by decide +kernel
theorem dL_acts_222 : decode cL_acts 222 = .ok (.iand, 1) := by decide +kernel
theorem dL_acts_223 : decode cL_acts 223 = .ok (.iconst 1, 1) := by decide +kernel
theorem dL_acts_224 : decode cL_acts 224 = .ok (.if_icmp .ne 7, 3) := by decide +kernel
theorem dL_acts_227 : decode cL_acts 227 = .ok (.iconst 1, 1) := by decide +kernel
theorem dL_acts_228 : decode cL_acts 228 = .ok (.goto 4, 3) := by decide +kernel
theorem dL_acts_231 : decode cL_acts 231 = .ok (.iconst 0, 1) := by decide +kernel
theorem dL_acts_232 : decode cL_acts 232 = .ok (.invokestatic 147, 3) := by decide +kernel
theorem dL_acts_235 : decode cL_acts 235 = .ok (.bipush (-12), 2) := by decide +kernel
theorem dL_acts_237 : decode cL_acts 237 = .ok (.if_icmp .lt 7, 3) := by decide +kernel
theorem dL_acts_240 : decode cL_acts 240 = .ok (.iconst 1, 1) := by decide +kernel
theorem dL_acts_241 : decode cL_acts 241 = .ok (.goto 4, 3) := by decide +kernel
theorem dL_acts_244 : decode cL_acts 244 = .ok (.iconst 0, 1) := by decide +kernel
theorem dL_acts_245 : decode cL_acts 245 = .ok (.ireturn, 1) := by decide +kernel
theorem dL_acts_246 : decode cL_acts 246 = .ok (.aload_n 0, 1) := by decide +kernel
theorem dL_acts_247 : decode cL_acts 247 = .ok (.iload 4, 2) := by decide +kernel
theorem dL_acts_249 : decode cL_acts 249 = .ok (.invokestatic 150, 3) := by decide +kernel
theorem dL_acts_252 : decode cL_acts 252 = .ok (.bipush (-12), 2) := by decide +kernel
theorem dL_acts_254 : decode cL_acts 254 = .ok (.if_icmp .lt 7, 3) := by decide +kernel
theorem dL_acts_257 : decode cL_acts 257 = .ok (.iconst 1, 1) := by decide +kernel
theorem dL_acts_258 : decode cL_acts 258 = .ok (.goto 4, 3) := by decide +kernel
theorem dL_acts_261 : decode cL_acts 261 = .ok (.iconst 0, 1) := by decide +kernel
theorem dL_acts_262 : decode cL_acts 262 = .ok (.ireturn, 1) := by decide +kernel
theorem dL_acts_263 : decode cL_acts 263 = .ok (.aload_n 0, 1) := by decide +kernel
theorem dL_acts_264 : decode cL_acts 264 = .ok (.iload_n 3, 1) := by decide +kernel
theorem dL_acts_265 : decode cL_acts 265 = .ok (.iload_n 3, 1) := by decide +kernel
theorem dL_acts_266 : decode cL_acts 266 = .ok (.iconst 1, 1) := by decide +kernel
theorem dL_acts_267 : decode cL_acts 267 = .ok (.iadd, 1) := by decide +kernel
theorem dL_acts_268 : decode cL_acts 268 = .ok (.aload_n 0, 1) := by decide +kernel
theorem dL_acts_269 : decode cL_acts 269 = .ok (.iconst 0, 1) := by decide +kernel
theorem dL_acts_270 : decode cL_acts 270 = .ok (.invokestatic 92, 3) := by decide +kernel
theorem dL_acts_273 : decode cL_acts 273 = .ok (.irem, 1) := by decide +kernel
theorem dL_acts_274 : decode cL_acts 274 = .ok (.iconst 1, 1) := by decide +kernel
theorem dL_acts_275 : decode cL_acts 275 = .ok (.iload_n 2, 1) := by decide +kernel
theorem dL_acts_276 : decode cL_acts 276 = .ok (.bipush 64, 2) := by decide +kernel
theorem dL_acts_278 : decode cL_acts 278 = .ok (.idiv, 1) := by decide +kernel
theorem dL_acts_279 : decode cL_acts 279 = .ok (.bipush 30, 2) := by decide +kernel
theorem dL_acts_281 : decode cL_acts 281 = .ok (.irem, 1) := by decide +kernel
theorem dL_acts_282 : decode cL_acts 282 = .ok (.iadd, 1) := by decide +kernel
theorem dL_acts_283 : decode cL_acts 283 = .ok (.aload_n 0, 1) := by decide +kernel
theorem dL_acts_284 : decode cL_acts 284 = .ok (.bipush 8, 2) := by decide +kernel
theorem dL_acts_286 : decode cL_acts 286 = .ok (.invokestatic 92, 3) := by decide +kernel
theorem dL_acts_289 : decode cL_acts 289 = .ok (.iload_n 2, 1) := by decide +kernel
theorem dL_acts_290 : decode cL_acts 290 = .ok (.sipush 2048, 3) := by decide +kernel
theorem dL_acts_293 : decode cL_acts 293 = .ok (.idiv, 1) := by decide +kernel
theorem dL_acts_294 : decode cL_acts 294 = .ok (.iconst 3, 1) := by decide +kernel
theorem dL_acts_295 : decode cL_acts 295 = .ok (.irem, 1) := by decide +kernel
theorem dL_acts_296 : decode cL_acts 296 = .ok (.iadd, 1) := by decide +kernel
theorem dL_acts_297 : decode cL_acts 297 = .ok (.bipush 40, 2) := by decide +kernel
theorem dL_acts_299 : decode cL_acts 299 = .ok (.irem, 1) := by decide +kernel
theorem dL_acts_300 : decode cL_acts 300 = .ok (.invokestatic 152, 3) := by decide +kernel
theorem dL_acts_303 : decode cL_acts 303 = .ok (.bipush (-13), 2) := by decide +kernel
theorem dL_acts_305 : decode cL_acts 305 = .ok (.if_icmp .lt 7, 3) := by decide +kernel
theorem dL_acts_308 : decode cL_acts 308 = .ok (.iconst 1, 1) := by decide +kernel
theorem dL_acts_309 : decode cL_acts 309 = .ok (.goto 4, 3) := by decide +kernel
theorem dL_acts_312 : decode cL_acts 312 = .ok (.iconst 0, 1) := by decide +kernel
theorem dL_acts_313 : decode cL_acts 313 = .ok (.ireturn, 1) := by decide +kernel
theorem dL_acts_314 : decode cL_acts 314 = .ok (.aload_n 0, 1) := by decide +kernel
theorem dL_acts_315 : decode cL_acts 315 = .ok (.iload_n 2, 1) := by decide +kernel
theorem dL_acts_316 : decode cL_acts 316 = .ok (.aload_n 0, 1) := by decide +kernel
theorem dL_acts_317 : decode cL_acts 317 = .ok (.iconst 2, 1) := by decide +kernel
theorem dL_acts_318 : decode cL_acts 318 = .ok (.invokestatic 92, 3) := by decide +kernel
theorem dL_acts_321 : decode cL_acts 321 = .ok (.iconst 1, 1) := by decide +kernel
theorem dL_acts_322 : decode cL_acts 322 = .ok (.iadd, 1) := by decide +kernel
theorem dL_acts_323 : decode cL_acts 323 = .ok (.irem, 1) := by decide +kernel
theorem dL_acts_324 : decode cL_acts 324 = .ok (.iconst 1, 1) := by decide +kernel
theorem dL_acts_325 : decode cL_acts 325 = .ok (.iload_n 2, 1) := by decide +kernel
theorem dL_acts_326 : decode cL_acts 326 = .ok (.bipush 64, 2) := by decide +kernel
theorem dL_acts_328 : decode cL_acts 328 = .ok (.idiv, 1) := by decide +kernel
theorem dL_acts_329 : decode cL_acts 329 = .ok (.bipush 9, 2) := by decide +kernel
theorem dL_acts_331 : decode cL_acts 331 = .ok (.irem, 1) := by decide +kernel
theorem dL_acts_332 : decode cL_acts 332 = .ok (.iadd, 1) := by decide +kernel
theorem dL_acts_333 : decode cL_acts 333 = .ok (.invokestatic 155, 3) := by decide +kernel
theorem dL_acts_336 : decode cL_acts 336 = .ok (.bipush (-13), 2) := by decide +kernel
theorem dL_acts_338 : decode cL_acts 338 = .ok (.if_icmp .lt 7, 3) := by decide +kernel
theorem dL_acts_341 : decode cL_acts 341 = .ok (.iconst 1, 1) := by decide +kernel
theorem dL_acts_342 : decode cL_acts 342 = .ok (.goto 4, 3) := by decide +kernel
theorem dL_acts_345 : decode cL_acts 345 = .ok (.iconst 0, 1) := by decide +kernel
theorem dL_acts_346 : decode cL_acts 346 = .ok (.ireturn, 1) := by decide +kernel
theorem dL_acts_347 : decode cL_acts 347 = .ok (.aload_n 0, 1) := by decide +kernel
theorem dL_acts_348 : decode cL_acts 348 = .ok (.iload_n 3, 1) := by decide +kernel
theorem dL_acts_349 : decode cL_acts 349 = .ok (.iconst 1, 1) := by decide +kernel
theorem dL_acts_350 : decode cL_acts 350 = .ok (.iload_n 2, 1) := by decide +kernel
theorem dL_acts_351 : decode cL_acts 351 = .ok (.bipush 64, 2) := by decide +kernel
theorem dL_acts_353 : decode cL_acts 353 = .ok (.idiv, 1) := by decide +kernel
theorem dL_acts_354 : decode cL_acts 354 = .ok (.bipush 9, 2) := by decide +kernel
theorem dL_acts_356 : decode cL_acts 356 = .ok (.irem, 1) := by decide +kernel
theorem dL_acts_357 : decode cL_acts 357 = .ok (.iadd, 1) := by decide +kernel
theorem dL_acts_358 : decode cL_acts 358 = .ok (.invokestatic 163, 3) := by decide +kernel
theorem dL_acts_361 : decode cL_acts 361 = .ok (.ireturn, 1) := by decide +kernel
theorem dL_acts_362 : decode cL_acts 362 = .ok (.aload_n 0, 1) := by decide +kernel
theorem dL_acts_363 : decode cL_acts 363 = .ok (.iload_n 3, 1) := by decide +kernel
theorem dL_acts_364 : decode cL_acts 364 = .ok (.iconst 1, 1) := by decide +kernel
theorem dL_acts_365 : decode cL_acts 365 = .ok (.iload_n 2, 1) := by decide +kernel
theorem dL_acts_366 : decode cL_acts 366 = .ok (.bipush 64, 2) := by decide +kernel
theorem dL_acts_368 : decode cL_acts 368 = .ok (.idiv, 1) := by decide +kernel
theorem dL_acts_369 : decode cL_acts 369 = .ok (.bipush 9, 2) := by decide +kernel
theorem dL_acts_371 : decode cL_acts 371 = .ok (.irem, 1) := by decide +kernel
theorem dL_acts_372 : decode cL_acts 372 = .ok (.iadd, 1) := by decide +kernel
theorem dL_acts_373 : decode cL_acts 373 = .ok (.iconst 1, 1) := by decide +kernel
theorem dL_acts_374 : decode cL_acts 374 = .ok (.iload_n 2, 1) := by decide +kernel
theorem dL_acts_375 : decode cL_acts 375 = .ok (.sipush 1024, 3) := by decide +kernel
theorem dL_acts_378 : decode cL_acts 378 = .ok (.idiv, 1) := by decide +kernel
theorem dL_acts_379 : decode cL_acts 379 = .ok (.iconst 4, 1) := by decide +kernel
theorem dL_acts_380 : decode cL_acts 380 = .ok (.irem, 1) := by decide +kernel
theorem dL_acts_381 : decode cL_acts 381 = .ok (.iadd, 1) := by decide +kernel
theorem dL_acts_382 : decode cL_acts 382 = .ok (.invokestatic 167, 3) := by decide +kernel
theorem dL_acts_385 : decode cL_acts 385 = .ok (.ireturn, 1) := by decide +kernel
theorem dL_acts_386 : decode cL_acts 386 = .ok (.aload_n 0, 1) := by decide +kernel
theorem dL_acts_387 : decode cL_acts 387 = .ok (.invokestatic 116, 3) := by decide +kernel
theorem dL_acts_390 : decode cL_acts 390 = .ok (.bipush (-11), 2) := by decide +kernel
theorem dL_acts_392 : decode cL_acts 392 = .ok (.if_icmp .lt 7, 3) := by decide +kernel
theorem dL_acts_395 : decode cL_acts 395 = .ok (.iconst 1, 1) := by decide +kernel
theorem dL_acts_396 : decode cL_acts 396 = .ok (.goto 4, 3) := by decide +kernel
theorem dL_acts_399 : decode cL_acts 399 = .ok (.iconst 0, 1) := by decide +kernel
theorem dL_acts_400 : decode cL_acts 400 = .ok (.ireturn, 1) := by decide +kernel

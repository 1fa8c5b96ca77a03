theorem dX12_meets_346 : decode cX12_meets 346 = .ok (.iload 9, 2) := by decide +kernel
theorem dX12_meets_348 : decode cX12_meets 348 = .ok (.ifCond .eq 22, 3) := by decide +kernel
theorem dX12_meets_351 : decode cX12_meets 351 = .ok (.iload 11, 2) := by decide +kernel
theorem dX12_meets_353 : decode cX12_meets 353 = .ok (.iload_n 2, 1) := by decide +kernel
theorem dX12_meets_354 : decode cX12_meets 354 = .ok (.if_icmp .ne 11, 3) := by decide +kernel
theorem dX12_meets_357 : decode cX12_meets 357 = .ok (.iload 6, 2) := by decide +kernel
theorem dX12_meets_359 : decode cX12_meets 359 = .ok (.iload 10, 2) := by decide +kernel
theorem dX12_meets_361 : decode cX12_meets 361 = .ok (.iadd, 1) := by decide +kernel
theorem dX12_meets_362 : decode cX12_meets 362 = .ok (.goto 17, 3) := by decide +kernel
theorem dX12_meets_365 : decode cX12_meets 365 = .ok (.iload 6, 2) := by decide +kernel
theorem dX12_meets_367 : decode cX12_meets 367 = .ok (.goto 12, 3) := by decide +kernel
theorem dX12_meets_370 : decode cX12_meets 370 = .ok (.iload 12, 2) := by decide +kernel
theorem dX12_meets_372 : decode cX12_meets 372 = .ok (.aload_n 0, 1) := by decide +kernel
theorem dX12_meets_373 : decode cX12_meets 373 = .ok (.getfield 37, 3) := by decide +kernel
theorem dX12_meets_376 : decode cX12_meets 376 = .ok (.iload_n 1, 1) := by decide +kernel
theorem dX12_meets_377 : decode cX12_meets 377 = .ok (.iaload, 1) := by decide +kernel
theorem dX12_meets_378 : decode cX12_meets 378 = .ok (.iadd, 1) := by decide +kernel
theorem dX12_meets_379 : decode cX12_meets 379 = .ok (.iastore, 1) := by decide +kernel
theorem dX12_meets_380 : decode cX12_meets 380 = .ok (.aload_n 0, 1) := by decide +kernel
theorem dX12_meets_381 : decode cX12_meets 381 = .ok (.getfield 124, 3) := by decide +kernel
theorem dX12_meets_384 : decode cX12_meets 384 = .ok (.iload_n 3, 1) := by decide +kernel
theorem dX12_meets_385 : decode cX12_meets 385 = .ok (.iload 9, 2) := by decide +kernel
theorem dX12_meets_387 : decode cX12_meets 387 = .ok (.ifCond .eq 22, 3) := by decide +kernel
theorem dX12_meets_390 : decode cX12_meets 390 = .ok (.iload 11, 2) := by decide +kernel
theorem dX12_meets_392 : decode cX12_meets 392 = .ok (.iload_n 3, 1) := by decide +kernel
theorem dX12_meets_393 : decode cX12_meets 393 = .ok (.if_icmp .ne 11, 3) := by decide +kernel
theorem dX12_meets_396 : decode cX12_meets 396 = .ok (.iload 7, 2) := by decide +kernel
theorem dX12_meets_398 : decode cX12_meets 398 = .ok (.iload 10, 2) := by decide +kernel
theorem dX12_meets_400 : decode cX12_meets 400 = .ok (.iadd, 1) := by decide +kernel
theorem dX12_meets_401 : decode cX12_meets 401 = .ok (.goto 17, 3) := by decide +kernel
theorem dX12_meets_404 : decode cX12_meets 404 = .ok (.iload 7, 2) := by decide +kernel
theorem dX12_meets_406 : decode cX12_meets 406 = .ok (.goto 12, 3) := by decide +kernel
theorem dX12_meets_409 : decode cX12_meets 409 = .ok (.iload 12, 2) := by decide +kernel
theorem dX12_meets_411 : decode cX12_meets 411 = .ok (.aload_n 0, 1) := by decide +kernel
theorem dX12_meets_412 : decode cX12_meets 412 = .ok (.getfield 37, 3) := by decide +kernel
theorem dX12_meets_415 : decode cX12_meets 415 = .ok (.iload_n 1, 1) := by decide +kernel
theorem dX12_meets_416 : decode cX12_meets 416 = .ok (.iaload, 1) := by decide +kernel
theorem dX12_meets_417 : decode cX12_meets 417 = .ok (.iadd, 1) := by decide +kernel
theorem dX12_meets_418 : decode cX12_meets 418 = .ok (.iastore, 1) := by decide +kernel
theorem dX12_meets_419 : decode cX12_meets 419 = .ok (.aload_n 0, 1) := by decide +kernel
theorem dX12_meets_420 : decode cX12_meets 420 = .ok (.getfield 19, 3) := by decide +kernel
theorem dX12_meets_423 : decode cX12_meets 423 = .ok (.iload_n 2, 1) := by decide +kernel
theorem dX12_meets_424 : decode cX12_meets 424 = .ok (.aload_n 0, 1) := by decide +kernel
theorem dX12_meets_425 : decode cX12_meets 425 = .ok (.getfield 136, 3) := by decide +kernel
theorem dX12_meets_428 : decode cX12_meets 428 = .ok (.iload_n 1, 1) := by decide +kernel
theorem dX12_meets_429 : decode cX12_meets 429 = .ok (.iaload, 1) := by decide +kernel
theorem dX12_meets_430 : decode cX12_meets 430 = .ok (.iastore, 1) := by decide +kernel
theorem dX12_meets_431 : decode cX12_meets 431 = .ok (.aload_n 0, 1) := by decide +kernel
theorem dX12_meets_432 : decode cX12_meets 432 = .ok (.getfield 19, 3) := by decide +kernel
theorem dX12_meets_435 : decode cX12_meets 435 = .ok (.iload_n 3, 1) := by decide +kernel
theorem dX12_meets_436 : decode cX12_meets 436 = .ok (.aload_n 0, 1) := by decide +kernel
theorem dX12_meets_437 : decode cX12_meets 437 = .ok (.getfield 139, 3) := by decide +kernel
theorem dX12_meets_440 : decode cX12_meets 440 = .ok (.iload_n 1, 1) := by decide +kernel
theorem dX12_meets_441 : decode cX12_meets 441 = .ok (.iaload, 1) := by decide +kernel
theorem dX12_meets_442 : decode cX12_meets 442 = .ok (.iastore, 1) := by decide +kernel
theorem dX12_meets_443 : decode cX12_meets 443 = .ok (.aload_n 0, 1) := by decide +kernel
theorem dX12_meets_444 : decode cX12_meets 444 = .ok (.getfield 40, 3) := by decide +kernel
theorem dX12_meets_447 : decode cX12_meets 447 = .ok (.iload_n 1, 1) := by decide +kernel
theorem dX12_meets_448 : decode cX12_meets 448 = .ok (.dup2, 1) := by decide +kernel
theorem dX12_meets_449 : decode cX12_meets 449 = .ok (.iaload, 1) := by decide +kernel
theorem dX12_meets_450 : decode cX12_meets 450 = .ok (.iload 9, 2) := by decide +kernel
theorem dX12_meets_452 : decode cX12_meets 452 = .ok (.ifCond .eq 7, 3) := by decide +kernel
theorem dX12_meets_455 : decode cX12_meets 455 = .ok (.iconst 0, 1) := by decide +kernel
theorem dX12_meets_456 : decode cX12_meets 456 = .ok (.goto 4, 3) := by decide +kernel
theorem dX12_meets_459 : decode cX12_meets 459 = .ok (.iconst 1, 1) := by decide +kernel
theorem dX12_meets_460 : decode cX12_meets 460 = .ok (.iadd, 1) := by decide +kernel
theorem dX12_meets_461 : decode cX12_meets 461 = .ok (.iastore, 1) := by decide +kernel
theorem dX12_meets_462 : decode cX12_meets 462 = .ok (.aload_n 0, 1) := by decide +kernel
theorem dX12_meets_463 : decode cX12_meets 463 = .ok (.getfield 43, 3) := by decide +kernel
theorem dX12_meets_466 : decode cX12_meets 466 = .ok (.iload_n 1, 1) := by decide +kernel
theorem dX12_meets_467 : decode cX12_meets 467 = .ok (.dup2, 1) := by decide +kernel
theorem dX12_meets_468 : decode cX12_meets 468 = .ok (.iaload, 1) := by decide +kernel
theorem dX12_meets_469 : decode cX12_meets 469 = .ok (.iload 9, 2) := by decide +kernel
theorem dX12_meets_471 : decode cX12_meets 471 = .ok (.ifCond .eq 7, 3) := by decide +kernel
theorem dX12_meets_474 : decode cX12_meets 474 = .ok (.iconst 1, 1) := by decide +kernel
theorem dX12_meets_475 : decode cX12_meets 475 = .ok (.goto 4, 3) := by decide +kernel
theorem dX12_meets_478 : decode cX12_meets 478 = .ok (.iconst 0, 1) := by decide +kernel
theorem dX12_meets_479 : decode cX12_meets 479 = .ok (.iadd, 1) := by decide +kernel
theorem dX12_meets_480 : decode cX12_meets 480 = .ok (.iastore, 1) := by decide +kernel
theorem dX12_meets_481 : decode cX12_meets 481 = .ok (.aload_n 0, 1) := by decide +kernel
theorem dX12_meets_482 : decode cX12_meets 482 = .ok (.dup, 1) := by decide +kernel
theorem dX12_meets_483 : decode cX12_meets 483 = .ok (.getfield 437, 3) := by decide +kernel
theorem dX12_meets_486 : decode cX12_meets 486 = .ok (.iload 9, 2) := by decide +kernel
theorem dX12_meets_488 : decode cX12_meets 488 = .ok (.ifCond .eq 7, 3) := by decide +kernel
theorem dX12_meets_491 : decode cX12_meets 491 = .ok (.iconst 1, 1) := by decide +kernel
theorem dX12_meets_492 : decode cX12_meets 492 = .ok (.goto 4, 3) := by decide +kernel
theorem dX12_meets_495 : decode cX12_meets 495 = .ok (.iconst 0, 1) := by decide +kernel
theorem dX12_meets_496 : decode cX12_meets 496 = .ok (.iadd, 1) := by decide +kernel
theorem dX12_meets_497 : decode cX12_meets 497 = .ok (.putfield 437, 3) := by decide +kernel
theorem dX12_meets_500 : decode cX12_meets 500 = .ok (.aload_n 0, 1) := by decide +kernel
theorem dX12_meets_501 : decode cX12_meets 501 = .ok (.dup, 1) := by decide +kernel
theorem dX12_meets_502 : decode cX12_meets 502 = .ok (.getfield 440, 3) := by decide +kernel
theorem dX12_meets_505 : decode cX12_meets 505 = .ok (.iload 13, 2) := by decide +kernel
theorem dX12_meets_507 : decode cX12_meets 507 = .ok (.iload 14, 2) := by decide +kernel
theorem dX12_meets_509 : decode cX12_meets 509 = .ok (.iadd, 1) := by decide +kernel
theorem dX12_meets_510 : decode cX12_meets 510 = .ok (.iload 10, 2) := by decide +kernel
theorem dX12_meets_512 : decode cX12_meets 512 = .ok (.iadd, 1) := by decide +kernel
theorem dX12_meets_513 : decode cX12_meets 513 = .ok (.iadd, 1) := by decide +kernel
theorem dX12_meets_514 : decode cX12_meets 514 = .ok (.putfield 440, 3) := by decide +kernel
theorem dX12_meets_517 : decode cX12_meets 517 = .ok (.aload_n 0, 1) := by decide +kernel
theorem dX12_meets_518 : decode cX12_meets 518 = .ok (.dup, 1) := by decide +kernel
theorem dX12_meets_519 : decode cX12_meets 519 = .ok (.getfield 443, 3) := by decide +kernel
theorem dX12_meets_522 : decode cX12_meets 522 = .ok (.iload 10, 2) := by decide +kernel
theorem dX12_meets_524 : decode cX12_meets 524 = .ok (.iadd, 1) := by decide +kernel
theorem dX12_meets_525 : decode cX12_meets 525 = .ok (.putfield 443, 3) := by decide +kernel
theorem dX12_meets_528 : decode cX12_meets 528 = .ok (.return_, 1) := by decide +kernel
theorem dX12_setsClock_0 : decode cX12_setsClock 0 = .ok (.aload_n 0, 1) := by decide +kernel
theorem dX12_setsClock_1 : decode cX12_setsClock 1 = .ok (.getfield 130, 3) := by decide +kernel
theorem dX12_setsClock_4 : decode cX12_setsClock 4 = .ok (.iload_n 1, 1) := by decide +kernel
theorem dX12_setsClock_5 : decode cX12_setsClock 5 = .ok (.iaload, 1) := by decide +kernel
theorem dX12_setsClock_6 : decode cX12_setsClock 6 = .ok (.aload_n 0, 1) := by decide +kernel
theorem dX12_setsClock_7 : decode cX12_setsClock 7 = .ok (.getfield 127, 3) := by decide +kernel
theorem dX12_setsClock_10 : decode cX12_setsClock 10 = .ok (.iload_n 1, 1) := by decide +kernel
theorem dX12_setsClock_11 : decode cX12_setsClock 11 = .ok (.iaload, 1) := by decide +kernel
theorem dX12_setsClock_12 : decode cX12_setsClock 12 = .ok (.if_icmp .le 7, 3) := by decide +kernel
theorem dX12_setsClock_15 : decode cX12_setsClock 15 = .ok (.iconst 1, 1) := by decide +kernel
theorem dX12_setsClock_16 : decode cX12_setsClock 16 = .ok (.goto 23, 3) := by decide +kernel
theorem dX12_setsClock_19 : decode cX12_setsClock 19 = .ok (.aload_n 0, 1) := by decide +kernel
theorem dX12_setsClock_20 : decode cX12_setsClock 20 = .ok (.getfield 130, 3) := by decide +kernel
theorem dX12_setsClock_23 : decode cX12_setsClock 23 = .ok (.iload_n 1, 1) := by decide +kernel
theorem dX12_setsClock_24 : decode cX12_setsClock 24 = .ok (.iaload, 1) := by decide +kernel
theorem dX12_setsClock_25 : decode cX12_setsClock 25 = .ok (.aload_n 0, 1) := by decide +kernel
theorem dX12_setsClock_26 : decode cX12_setsClock 26 = .ok (.getfield 127, 3) := by decide +kernel
theorem dX12_setsClock_29 : decode cX12_setsClock 29 = .ok (.iload_n 1, 1) := by decide +kernel
theorem dX12_setsClock_30 : decode cX12_setsClock 30 = .ok (.iaload, 1) := by decide +kernel
theorem dX12_setsClock_31 : decode cX12_setsClock 31 = .ok (.if_icmp .ge 7, 3) := by decide +kernel
theorem dX12_setsClock_34 : decode cX12_setsClock 34 = .ok (.iconst (-1), 1) := by decide +kernel
theorem dX12_setsClock_35 : decode cX12_setsClock 35 = .ok (.goto 4, 3) := by decide +kernel
theorem dX12_setsClock_38 : decode cX12_setsClock 38 = .ok (.iconst 0, 1) := by decide +kernel
theorem dX12_setsClock_39 : decode cX12_setsClock 39 = .ok (.istore_n 2, 1) := by decide +kernel
theorem dX12_setsClock_40 : decode cX12_setsClock 40 = .ok (.aload_n 0, 1) := by decide +kernel
theorem dX12_setsClock_41 : decode cX12_setsClock 41 = .ok (.getfield 16, 3) := by decide +kernel
theorem dX12_setsClock_44 : decode cX12_setsClock 44 = .ok (.iload_n 1, 1) := by decide +kernel
theorem dX12_setsClock_45 : decode cX12_setsClock 45 = .ok (.aload_n 0, 1) := by decide +kernel
theorem dX12_setsClock_46 : decode cX12_setsClock 46 = .ok (.getfield 16, 3) := by decide +kernel
theorem dX12_setsClock_49 : decode cX12_setsClock 49 = .ok (.iload_n 1, 1) := by decide +kernel
theorem dX12_setsClock_50 : decode cX12_setsClock 50 = .ok (.iaload, 1) := by decide +kernel
theorem dX12_setsClock_51 : decode cX12_setsClock 51 = .ok (.iload_n 2, 1) := by decide +kernel
theorem dX12_setsClock_52 : decode cX12_setsClock 52 = .ok (.iadd, 1) := by decide +kernel
theorem dX12_setsClock_53 : decode cX12_setsClock 53 = .ok (.i2l, 1) := by decide +kernel
theorem dX12_setsClock_54 : decode cX12_setsClock 54 = .ok (.bipush (-20), 2) := by decide +kernel
theorem dX12_setsClock_56 : decode cX12_setsClock 56 = .ok (.bipush 20, 2) := by decide +kernel
theorem dX12_setsClock_58 : decode cX12_setsClock 58 = .ok (.invokestatic 399, 3) := by decide +kernel
theorem dX12_setsClock_61 : decode cX12_setsClock 61 = .ok (.iastore, 1) := by decide +kernel
theorem dX12_setsClock_62 : decode cX12_setsClock 62 = .ok (.return_, 1) := by decide +kernel
theorem dX12_dayGoes_0 : decode cX12_dayGoes 0 = .ok (.aload_n 0, 1) := by decide +kernel
theorem dX12_dayGoes_1 : decode cX12_dayGoes 1 = .ok (.invokevirtual 446, 3) := by decide +kernel
theorem dX12_dayGoes_4 : decode cX12_dayGoes 4 = .ok (.aload_n 0, 1) := by decide +kernel
theorem dX12_dayGoes_5 : decode cX12_dayGoes 5 = .ok (.iconst 0, 1) := by decide +kernel
theorem dX12_dayGoes_6 : decode cX12_dayGoes 6 = .ok (.putfield 437, 3) := by decide +kernel
theorem dX12_dayGoes_9 : decode cX12_dayGoes 9 = .ok (.aload_n 0, 1) := by decide +kernel
theorem dX12_dayGoes_10 : decode cX12_dayGoes 10 = .ok (.iconst 0, 1) := by decide +kernel
theorem dX12_dayGoes_11 : decode cX12_dayGoes 11 = .ok (.putfield 440, 3) := by decide +kernel
theorem dX12_dayGoes_14 : decode cX12_dayGoes 14 = .ok (.aload_n 0, 1) := by decide +kernel
theorem dX12_dayGoes_15 : decode cX12_dayGoes 15 = .ok (.iconst 0, 1) := by decide +kernel
theorem dX12_dayGoes_16 : decode cX12_dayGoes 16 = .ok (.putfield 443, 3) := by decide +kernel
theorem dX12_dayGoes_19 : decode cX12_dayGoes 19 = .ok (.iconst 0, 1) := by decide +kernel
theorem dX12_dayGoes_20 : decode cX12_dayGoes 20 = .ok (.istore_n 1, 1) := by decide +kernel
theorem dX12_dayGoes_21 : decode cX12_dayGoes 21 = .ok (.iload_n 1, 1) := by decide +kernel
theorem dX12_dayGoes_22 : decode cX12_dayGoes 22 = .ok (.iconst 5, 1) := by decide +kernel
theorem dX12_dayGoes_23 : decode cX12_dayGoes 23 = .ok (.if_icmp .ge 32, 3) := by decide +kernel
theorem dX12_dayGoes_26 : decode cX12_dayGoes 26 = .ok (.aload_n 0, 1) := by decide +kernel
theorem dX12_dayGoes_27 : decode cX12_dayGoes 27 = .ok (.getfield 124, 3) := by decide +kernel
theorem dX12_dayGoes_30 : decode cX12_dayGoes 30 = .ok (.iload_n 1, 1) := by decide +kernel
theorem dX12_dayGoes_31 : decode cX12_dayGoes 31 = .ok (.ldc_w 417, 3) := by decide +kernel
theorem dX12_dayGoes_34 : decode cX12_dayGoes 34 = .ok (.iastore, 1) := by decide +kernel
theorem dX12_dayGoes_35 : decode cX12_dayGoes 35 = .ok (.aload_n 0, 1) := by decide +kernel
theorem dX12_dayGoes_36 : decode cX12_dayGoes 36 = .ok (.getfield 127, 3) := by decide +kernel
theorem dX12_dayGoes_39 : decode cX12_dayGoes 39 = .ok (.iload_n 1, 1) := by decide +kernel
theorem dX12_dayGoes_40 : decode cX12_dayGoes 40 = .ok (.iconst 0, 1) := by decide +kernel
theorem dX12_dayGoes_41 : decode cX12_dayGoes 41 = .ok (.iastore, 1) := by decide +kernel
theorem dX12_dayGoes_42 : decode cX12_dayGoes 42 = .ok (.aload_n 0, 1) := by decide +kernel
theorem dX12_dayGoes_43 : decode cX12_dayGoes 43 = .ok (.getfield 130, 3) := by decide +kernel
theorem dX12_dayGoes_46 : decode cX12_dayGoes 46 = .ok (.iload_n 1, 1) := by decide +kernel
theorem dX12_dayGoes_47 : decode cX12_dayGoes 47 = .ok (.iconst 0, 1) := by decide +kernel
theorem dX12_dayGoes_48 : decode cX12_dayGoes 48 = .ok (.iastore, 1) := by decide +kernel
theorem dX12_dayGoes_49 : decode cX12_dayGoes 49 = .ok (.iinc 1 1, 3) := by decide +kernel
theorem dX12_dayGoes_52 : decode cX12_dayGoes 52 = .ok (.goto (-31), 3) := by decide +kernel
theorem dX12_dayGoes_55 : decode cX12_dayGoes 55 = .ok (.iconst 0, 1) := by decide +kernel
theorem dX12_dayGoes_56 : decode cX12_dayGoes 56 = .ok (.istore_n 1, 1) := by decide +kernel
theorem dX12_dayGoes_57 : decode cX12_dayGoes 57 = .ok (.iload_n 1, 1) := by decide +kernel
theorem dX12_dayGoes_58 : decode cX12_dayGoes 58 = .ok (.aload_n 0, 1) := by decide +kernel
theorem dX12_dayGoes_59 : decode cX12_dayGoes 59 = .ok (.getfield 9, 3) := by decide +kernel
theorem dX12_dayGoes_62 : decode cX12_dayGoes 62 = .ok (.iconst 4, 1) := by decide +kernel
theorem dX12_dayGoes_63 : decode cX12_dayGoes 63 = .ok (.iaload, 1) := by decide +kernel
theorem dX12_dayGoes_64 : decode cX12_dayGoes 64 = .ok (.if_icmp .ge 32, 3) := by decide +kernel
theorem dX12_dayGoes_67 : decode cX12_dayGoes 67 = .ok (.aload_n 0, 1) := by decide +kernel
theorem dX12_dayGoes_68 : decode cX12_dayGoes 68 = .ok (.getfield 121, 3) := by decide +kernel
theorem dX12_dayGoes_71 : decode cX12_dayGoes 71 = .ok (.iload_n 1, 1) := by decide +kernel
theorem dX12_dayGoes_72 : decode cX12_dayGoes 72 = .ok (.iaload, 1) := by decide +kernel
theorem dX12_dayGoes_73 : decode cX12_dayGoes 73 = .ok (.aload_n 0, 1) := by decide +kernel
theorem dX12_dayGoes_74 : decode cX12_dayGoes 74 = .ok (.getfield 151, 3) := by decide +kernel
theorem dX12_dayGoes_77 : decode cX12_dayGoes 77 = .ok (.if_icmp .eq 13, 3) := by decide +kernel
theorem dX12_dayGoes_80 : decode cX12_dayGoes 80 = .ok (.aload_n 0, 1) := by decide +kernel
theorem dX12_dayGoes_81 : decode cX12_dayGoes 81 = .ok (.aload_n 0, 1) := by decide +kernel
theorem dX12_dayGoes_82 : decode cX12_dayGoes 82 = .ok (.getfield 121, 3) := by decide +kernel
theorem dX12_dayGoes_85 : decode cX12_dayGoes 85 = .ok (.iload_n 1, 1) := by decide +kernel
theorem dX12_dayGoes_86 : decode cX12_dayGoes 86 = .ok (.iaload, 1) := by decide +kernel
theorem dX12_dayGoes_87 : decode cX12_dayGoes 87 = .ok (.invokevirtual 449, 3) := by decide +kernel
theorem dX12_dayGoes_90 : decode cX12_dayGoes 90 = .ok (.iinc 1 1, 3) := by decide +kernel
theorem dX12_dayGoes_93 : decode cX12_dayGoes 93 = .ok (.goto (-36), 3) := by decide +kernel
theorem dX12_dayGoes_96 : decode cX12_dayGoes 96 = .ok (.iconst 0, 1) := by decide +kernel
theorem dX12_dayGoes_97 : decode cX12_dayGoes 97 = .ok (.istore_n 1, 1) := by decide +kernel
theorem dX12_dayGoes_98 : decode cX12_dayGoes 98 = .ok (.iload_n 1, 1) := by decide +kernel
theorem dX12_dayGoes_99 : decode cX12_dayGoes 99 = .ok (.aload_n 0, 1) := by decide +kernel
theorem dX12_dayGoes_100 : decode cX12_dayGoes 100 = .ok (.getfield 9, 3) := by decide +kernel
theorem dX12_dayGoes_103 : decode cX12_dayGoes 103 = .ok (.iconst 3, 1) := by decide +kernel
theorem dX12_dayGoes_104 : decode cX12_dayGoes 104 = .ok (.iaload, 1) := by decide +kernel
theorem dX12_dayGoes_105 : decode cX12_dayGoes 105 = .ok (.if_icmp .ge 14, 3) := by decide +kernel
theorem dX12_dayGoes_108 : decode cX12_dayGoes 108 = .ok (.aload_n 0, 1) := by decide +kernel
theorem dX12_dayGoes_109 : decode cX12_dayGoes 109 = .ok (.iload_n 1, 1) := by decide +kernel
theorem dX12_dayGoes_110 : decode cX12_dayGoes 110 = .ok (.invokevirtual 452, 3) := by decide +kernel
theorem dX12_dayGoes_113 : decode cX12_dayGoes 113 = .ok (.iinc 1 1, 3) := by decide +kernel
theorem dX12_dayGoes_116 : decode cX12_dayGoes 116 = .ok (.goto (-18), 3) := by decide +kernel
theorem dX12_dayGoes_119 : decode cX12_dayGoes 119 = .ok (.aload_n 0, 1) := by decide +kernel
theorem dX12_dayGoes_120 : decode cX12_dayGoes 120 = .ok (.getfield 9, 3) := by decide +kernel
theorem dX12_dayGoes_123 : decode cX12_dayGoes 123 = .ok (.bipush 9, 2) := by decide +kernel
theorem dX12_dayGoes_125 : decode cX12_dayGoes 125 = .ok (.dup2, 1) := by decide +kernel
theorem dX12_dayGoes_126 : decode cX12_dayGoes 126 = .ok (.iaload, 1) := by decide +kernel
theorem dX12_dayGoes_127 : decode cX12_dayGoes 127 = .ok (.iconst 1, 1) := by decide +kernel
theorem dX12_dayGoes_128 : decode cX12_dayGoes 128 = .ok (.iadd, 1) := by decide +kernel
theorem dX12_dayGoes_129 : decode cX12_dayGoes 129 = .ok (.iastore, 1) := by decide +kernel
theorem dX12_dayGoes_130 : decode cX12_dayGoes 130 = .ok (.aload_n 0, 1) := by decide +kernel
theorem dX12_dayGoes_131 : decode cX12_dayGoes 131 = .ok (.getfield 437, 3) := by decide +kernel
theorem dX12_dayGoes_134 : decode cX12_dayGoes 134 = .ok (.ireturn, 1) := by decide +kernel
theorem dX12_meetingsOf_0 : decode cX12_meetingsOf 0 = .ok (.iconst 0, 1) := by decide +kernel
theorem dX12_meetingsOf_1 : decode cX12_meetingsOf 1 = .ok (.istore_n 2, 1) := by decide +kernel
theorem dX12_meetingsOf_2 : decode cX12_meetingsOf 2 = .ok (.iconst 0, 1) := by decide +kernel
theorem dX12_meetingsOf_3 : decode cX12_meetingsOf 3 = .ok (.istore_n 3, 1) := by decide +kernel
theorem dX12_meetingsOf_4 : decode cX12_meetingsOf 4 = .ok (.iload_n 3, 1) := by decide +kernel
theorem dX12_meetingsOf_5 : decode cX12_meetingsOf 5 = .ok (.aload_n 0, 1) := by decide +kernel
theorem dX12_meetingsOf_6 : decode cX12_meetingsOf 6 = .ok (.getfield 9, 3) := by decide +kernel
theorem dX12_meetingsOf_9 : decode cX12_meetingsOf 9 = .ok (.iconst 4, 1) := by decide +kernel
theorem dX12_meetingsOf_10 : decode cX12_meetingsOf 10 = .ok (.iaload, 1) := by decide +kernel
theorem dX12_meetingsOf_11 : decode cX12_meetingsOf 11 = .ok (.if_icmp .ge 28, 3) := by decide +kernel
theorem dX12_meetingsOf_14 : decode cX12_meetingsOf 14 = .ok (.iload_n 2, 1) := by decide +kernel
theorem dX12_meetingsOf_15 : decode cX12_meetingsOf 15 = .ok (.aload_n 0, 1) := by decide +kernel
theorem dX12_meetingsOf_16 : decode cX12_meetingsOf 16 = .ok (.iload_n 1, 1) := by decide +kernel
theorem dX12_meetingsOf_17 : decode cX12_meetingsOf 17 = .ok (.iload_n 3, 1) := by decide +kernel
theorem dX12_meetingsOf_18 : decode cX12_meetingsOf 18 = .ok (.invokevirtual 455, 3) := by decide +kernel
theorem dX12_meetingsOf_21 : decode cX12_meetingsOf 21 = .ok (.ifCond .eq 9, 3) := by decide +kernel
theorem dX12_meetingsOf_24 : decode cX12_meetingsOf 24 = .ok (.iconst 1, 1) := by decide +kernel
theorem dX12_meetingsOf_25 : decode cX12_meetingsOf 25 = .ok (.iload_n 3, 1) := by decide +kernel
theorem dX12_meetingsOf_26 : decode cX12_meetingsOf 26 = .ok (.ishl, 1) := by decide +kernel
theorem dX12_meetingsOf_27 : decode cX12_meetingsOf 27 = .ok (.goto 4, 3) := by decide +kernel
theorem dX12_meetingsOf_30 : decode cX12_meetingsOf 30 = .ok (.iconst 0, 1) := by decide +kernel
theorem dX12_meetingsOf_31 : decode cX12_meetingsOf 31 = .ok (.ior, 1) := by decide +kernel
theorem dX12_meetingsOf_32 : decode cX12_meetingsOf 32 = .ok (.istore_n 2, 1) := by decide +kernel
theorem dX12_meetingsOf_33 : decode cX12_meetingsOf 33 = .ok (.iinc 3 1, 3) := by decide +kernel
theorem dX12_meetingsOf_36 : decode cX12_meetingsOf 36 = .ok (.goto (-32), 3) := by decide +kernel
theorem dX12_meetingsOf_39 : decode cX12_meetingsOf 39 = .ok (.iload_n 2, 1) := by decide +kernel
theorem dX12_meetingsOf_40 : decode cX12_meetingsOf 40 = .ok (.ireturn, 1) := by decide +kernel
theorem dX12_person_0 : decode cX12_person 0 = .ok (.aload_n 0, 1) := by decide +kernel
theorem dX12_person_1 : decode cX12_person 1 = .ok (.iload_n 1, 1) := by decide +kernel
theorem dX12_person_2 : decode cX12_person 2 = .ok (.invokevirtual 458, 3) := by decide +kernel
theorem dX12_person_5 : decode cX12_person 5 = .ok (.ifCond .ne 7, 3) := by decide +kernel
theorem dX12_person_8 : decode cX12_person 8 = .ok (.sipush (-1000), 3) := by decide +kernel
theorem dX12_person_11 : decode cX12_person 11 = .ok (.ireturn, 1) := by decide +kernel
theorem dX12_person_12 : decode cX12_person 12 = .ok (.iload_n 2, 1) := by decide +kernel
theorem dX12_person_13 : decode cX12_person 13 = .ok (.tableswitch 104 0 6 #[43, 50, 57, 77, 84, 91, 98], 43) := by decide +kernel
theorem dX12_person_56 : decode cX12_person 56 = .ok (.aload_n 0, 1) := by decide +kernel
theorem dX12_person_57 : decode cX12_person 57 = .ok (.getfield 13, 3) := by decide +kernel
theorem dX12_person_60 : decode cX12_person 60 = .ok (.iload_n 1, 1) := by decide +kernel
theorem dX12_person_61 : decode cX12_person 61 = .ok (.iaload, 1) := by decide +kernel
theorem dX12_person_62 : decode cX12_person 62 = .ok (.ireturn, 1) := by decide +kernel
theorem dX12_person_63 : decode cX12_person 63 = .ok (.aload_n 0, 1) := by decide +kernel
theorem dX12_person_64 : decode cX12_person 64 = .ok (.getfield 16, 3) := by decide +kernel
theorem dX12_person_67 : decode cX12_person 67 = .ok (.iload_n 1, 1) := by decide +kernel
theorem dX12_person_68 : decode cX12_person 68 = .ok (.iaload, 1) := by decide +kernel
theorem dX12_person_69 : decode cX12_person 69 = .ok (.ireturn, 1) := by decide +kernel
theorem dX12_person_70 : decode cX12_person 70 = .ok (.aload_n 0, 1) := by decide +kernel
theorem dX12_person_71 : decode cX12_person 71 = .ok (.getfield 9, 3) := by decide +kernel
theorem dX12_person_74 : decode cX12_person 74 = .ok (.bipush 8, 2) := by decide +kernel
theorem dX12_person_76 : decode cX12_person 76 = .ok (.iaload, 1) := by decide +kernel
theorem dX12_person_77 : decode cX12_person 77 = .ok (.iload_n 1, 1) := by decide +kernel
theorem dX12_person_78 : decode cX12_person 78 = .ok (.invokestatic 403, 3) := by decide +kernel
theorem dX12_person_81 : decode cX12_person 81 = .ok (.ifCond .eq 7, 3) := by decide +kernel
theorem dX12_person_84 : decode cX12_person 84 = .ok (.iconst 1, 1) := by decide +kernel
theorem dX12_person_85 : decode cX12_person 85 = .ok (.goto 4, 3) := by decide +kernel
theorem dX12_person_88 : decode cX12_person 88 = .ok (.iconst 0, 1) := by decide +kernel
theorem dX12_person_89 : decode cX12_person 89 = .ok (.ireturn, 1) := by decide +kernel
theorem dX12_person_90 : decode cX12_person 90 = .ok (.aload_n 0, 1) := by decide +kernel
theorem dX12_person_91 : decode cX12_person 91 = .ok (.getfield 19, 3) := by decide +kernel
theorem dX12_person_94 : decode cX12_person 94 = .ok (.iload_n 1, 1) := by decide +kernel
theorem dX12_person_95 : decode cX12_person 95 = .ok (.iaload, 1) := by decide +kernel
theorem dX12_person_96 : decode cX12_person 96 = .ok (.ireturn, 1) := by decide +kernel
theorem dX12_person_97 : decode cX12_person 97 = .ok (.aload_n 0, 1) := by decide +kernel
theorem dX12_person_98 : decode cX12_person 98 = .ok (.getfield 22, 3) := by decide +kernel
theorem dX12_person_101 : decode cX12_person 101 = .ok (.iload_n 1, 1) := by decide +kernel
theorem dX12_person_102 : decode cX12_person 102 = .ok (.iaload, 1) := by decide +kernel
theorem dX12_person_103 : decode cX12_person 103 = .ok (.ireturn, 1) := by decide +kernel
theorem dX12_person_104 : decode cX12_person 104 = .ok (.aload_n 0, 1) := by decide +kernel
theorem dX12_person_105 : decode cX12_person 105 = .ok (.getfield 25, 3) := by decide +kernel
theorem dX12_person_108 : decode cX12_person 108 = .ok (.iload_n 1, 1) := by decide +kernel
theorem dX12_person_109 : decode cX12_person 109 = .ok (.iaload, 1) := by decide +kernel
theorem dX12_person_110 : decode cX12_person 110 = .ok (.ireturn, 1) := by decide +kernel
theorem dX12_person_111 : decode cX12_person 111 = .ok (.aload_n 0, 1) := by decide +kernel
theorem dX12_person_112 : decode cX12_person 112 = .ok (.iload_n 1, 1) := by decide +kernel
theorem dX12_person_113 : decode cX12_person 113 = .ok (.invokevirtual 462, 3) := by decide +kernel
theorem dX12_person_116 : decode cX12_person 116 = .ok (.ireturn, 1) := by decide +kernel
theorem dX12_person_117 : decode cX12_person 117 = .ok (.sipush (-1000), 3) := by decide +kernel
theorem dX12_person_120 : decode cX12_person 120 = .ok (.ireturn, 1) := by decide +kernel
theorem dX12_meeting_0 : decode cX12_meeting 0 = .ok (.aload_n 0, 1) := by decide +kernel
theorem dX12_meeting_1 : decode cX12_meeting 1 = .ok (.iload_n 1, 1) := by decide +kernel
theorem dX12_meeting_2 : decode cX12_meeting 2 = .ok (.invokevirtual 465, 3) := by decide +kernel
theorem dX12_meeting_5 : decode cX12_meeting 5 = .ok (.ifCond .ne 5, 3) := by decide +kernel
theorem dX12_meeting_8 : decode cX12_meeting 8 = .ok (.iconst (-1), 1) := by decide +kernel
theorem dX12_meeting_9 : decode cX12_meeting 9 = .ok (.ireturn, 1) := by decide +kernel
theorem dX12_meeting_10 : decode cX12_meeting 10 = .ok (.iload_n 2, 1) := by decide +kernel
theorem dX12_meeting_11 : decode cX12_meeting 11 = .ok (.tableswitch 79 0 5 #[37, 44, 51, 58, 65, 72], 37) := by decide +kernel
theorem dX12_meeting_48 : decode cX12_meeting 48 = .ok (.aload_n 0, 1) := by decide +kernel
theorem dX12_meeting_49 : decode cX12_meeting 49 = .ok (.getfield 28, 3) := by decide +kernel
theorem dX12_meeting_52 : decode cX12_meeting 52 = .ok (.iload_n 1, 1) := by decide +kernel
theorem dX12_meeting_53 : decode cX12_meeting 53 = .ok (.iaload, 1) := by decide +kernel
theorem dX12_meeting_54 : decode cX12_meeting 54 = .ok (.ireturn, 1) := by decide +kernel
theorem dX12_meeting_55 : decode cX12_meeting 55 = .ok (.aload_n 0, 1) := by decide +kernel
theorem dX12_meeting_56 : decode cX12_meeting 56 = .ok (.getfield 31, 3) := by decide +kernel
theorem dX12_meeting_59 : decode cX12_meeting 59 = .ok (.iload_n 1, 1) := by decide +kernel
theorem dX12_meeting_60 : decode cX12_meeting 60 = .ok (.iaload, 1) := by decide +kernel
theorem dX12_meeting_61 : decode cX12_meeting 61 = .ok (.ireturn, 1) := by decide +kernel
theorem dX12_meeting_62 : decode cX12_meeting 62 = .ok (.aload_n 0, 1) := by decide +kernel
theorem dX12_meeting_63 : decode cX12_meeting 63 = .ok (.getfield 34, 3) := by decide +kernel
theorem dX12_meeting_66 : decode cX12_meeting 66 = .ok (.iload_n 1, 1) := by decide +kernel
theorem dX12_meeting_67 : decode cX12_meeting 67 = .ok (.iaload, 1) := by decide +kernel
theorem dX12_meeting_68 : decode cX12_meeting 68 = .ok (.ireturn, 1) := by decide +kernel
theorem dX12_meeting_69 : decode cX12_meeting 69 = .ok (.aload_n 0, 1) := by decide +kernel
theorem dX12_meeting_70 : decode cX12_meeting 70 = .ok (.getfield 37, 3) := by decide +kernel
theorem dX12_meeting_73 : decode cX12_meeting 73 = .ok (.iload_n 1, 1) := by decide +kernel
theorem dX12_meeting_74 : decode cX12_meeting 74 = .ok (.iaload, 1) := by decide +kernel
theorem dX12_meeting_75 : decode cX12_meeting 75 = .ok (.ireturn, 1) := by decide +kernel
theorem dX12_meeting_76 : decode cX12_meeting 76 = .ok (.aload_n 0, 1) := by decide +kernel
theorem dX12_meeting_77 : decode cX12_meeting 77 = .ok (.getfield 40, 3) := by decide +kernel
theorem dX12_meeting_80 : decode cX12_meeting 80 = .ok (.iload_n 1, 1) := by decide +kernel
theorem dX12_meeting_81 : decode cX12_meeting 81 = .ok (.iaload, 1) := by decide +kernel
theorem dX12_meeting_82 : decode cX12_meeting 82 = .ok (.ireturn, 1) := by decide +kernel
theorem dX12_meeting_83 : decode cX12_meeting 83 = .ok (.aload_n 0, 1) := by decide +kernel
theorem dX12_meeting_84 : decode cX12_meeting 84 = .ok (.getfield 43, 3) := by decide +kernel
theorem dX12_meeting_87 : decode cX12_meeting 87 = .ok (.iload_n 1, 1) := by decide +kernel
theorem dX12_meeting_88 : decode cX12_meeting 88 = .ok (.iaload, 1) := by decide +kernel
theorem dX12_meeting_89 : decode cX12_meeting 89 = .ok (.ireturn, 1) := by decide +kernel
theorem dX12_meeting_90 : decode cX12_meeting 90 = .ok (.iconst (-1), 1) := by decide +kernel
theorem dX12_meeting_91 : decode cX12_meeting 91 = .ok (.ireturn, 1) := by decide +kernel
theorem dX12_moves_0 : decode cX12_moves 0 = .ok (.aload_n 0, 1) := by decide +kernel
theorem dX12_moves_1 : decode cX12_moves 1 = .ok (.getfield 468, 3) := by decide +kernel
theorem dX12_moves_4 : decode cX12_moves 4 = .ok (.ifCond .eq 15, 3) := by decide +kernel
theorem dX12_moves_7 : decode cX12_moves 7 = .ok (.aload_n 0, 1) := by decide +kernel
theorem dX12_moves_8 : decode cX12_moves 8 = .ok (.getfield 157, 3) := by decide +kernel
theorem dX12_moves_11 : decode cX12_moves 11 = .ok (.aload_n 0, 1) := by decide +kernel
theorem dX12_moves_12 : decode cX12_moves 12 = .ok (.getfield 471, 3) := by decide +kernel
theorem dX12_moves_15 : decode cX12_moves 15 = .ok (.iaload, 1) := by decide +kernel
theorem dX12_moves_16 : decode cX12_moves 16 = .ok (.goto 4, 3) := by decide +kernel
theorem dX12_moves_19 : decode cX12_moves 19 = .ok (.iload_n 1, 1) := by decide +kernel
theorem dX12_moves_20 : decode cX12_moves 20 = .ok (.istore_n 2, 1) := by decide +kernel
theorem dX12_moves_21 : decode cX12_moves 21 = .ok (.aload_n 0, 1) := by decide +kernel
theorem dX12_moves_22 : decode cX12_moves 22 = .ok (.getfield 157, 3) := by decide +kernel
theorem dX12_moves_25 : decode cX12_moves 25 = .ok (.aload_n 0, 1) := by decide +kernel
theorem dX12_moves_26 : decode cX12_moves 26 = .ok (.getfield 471, 3) := by decide +kernel
theorem dX12_moves_29 : decode cX12_moves 29 = .ok (.iload_n 2, 1) := by decide +kernel
theorem dX12_moves_30 : decode cX12_moves 30 = .ok (.iastore, 1) := by decide +kernel
theorem dX12_moves_31 : decode cX12_moves 31 = .ok (.aload_n 0, 1) := by decide +kernel
theorem dX12_moves_32 : decode cX12_moves 32 = .ok (.dup, 1) := by decide +kernel
theorem dX12_moves_33 : decode cX12_moves 33 = .ok (.getfield 471, 3) := by decide +kernel
theorem dX12_moves_36 : decode cX12_moves 36 = .ok (.iconst 1, 1) := by decide +kernel
theorem dX12_moves_37 : decode cX12_moves 37 = .ok (.iadd, 1) := by decide +kernel
theorem dX12_moves_38 : decode cX12_moves 38 = .ok (.putfield 471, 3) := by decide +kernel
theorem dX12_moves_41 : decode cX12_moves 41 = .ok (.iload_n 2, 1) := by decide +kernel
theorem dX12_moves_42 : decode cX12_moves 42 = .ok (.ireturn, 1) := by decide +kernel
theorem dX12_movesRow_0 : decode cX12_movesRow 0 = .ok (.iconst 0, 1) := by decide +kernel
theorem dX12_movesRow_1 : decode cX12_movesRow 1 = .ok (.istore_n 2, 1) := by decide +kernel
theorem dX12_movesRow_2 : decode cX12_movesRow 2 = .ok (.iload_n 2, 1) := by decide +kernel
theorem dX12_movesRow_3 : decode cX12_movesRow 3 = .ok (.aload_n 1, 1) := by decide +kernel
theorem dX12_movesRow_4 : decode cX12_movesRow 4 = .ok (.arraylength, 1) := by decide +kernel
theorem dX12_movesRow_5 : decode cX12_movesRow 5 = .ok (.if_icmp .ge 19, 3) := by decide +kernel
theorem dX12_movesRow_8 : decode cX12_movesRow 8 = .ok (.aload_n 1, 1) := by decide +kernel
theorem dX12_movesRow_9 : decode cX12_movesRow 9 = .ok (.iload_n 2, 1) := by decide +kernel
theorem dX12_movesRow_10 : decode cX12_movesRow 10 = .ok (.aload_n 0, 1) := by decide +kernel
theorem dX12_movesRow_11 : decode cX12_movesRow 11 = .ok (.aload_n 1, 1) := by decide +kernel
theorem dX12_movesRow_12 : decode cX12_movesRow 12 = .ok (.iload_n 2, 1) := by decide +kernel
theorem dX12_movesRow_13 : decode cX12_movesRow 13 = .ok (.iaload, 1) := by decide +kernel
theorem dX12_movesRow_14 : decode cX12_movesRow 14 = .ok (.invokevirtual 474, 3) := by decide +kernel
theorem dX12_movesRow_17 : decode cX12_movesRow 17 = .ok (.iastore, 1) := by decide +kernel
theorem dX12_movesRow_18 : decode cX12_movesRow 18 = .ok (.iinc 2 1, 3) := by decide +kernel
theorem dX12_movesRow_21 : decode cX12_movesRow 21 = .ok (.goto (-19), 3) := by decide +kernel
theorem dX12_movesRow_24 : decode cX12_movesRow 24 = .ok (.return_, 1) := by decide +kernel
theorem dX12_movesAll_0 : decode cX12_movesAll 0 = .ok (.aload_n 0, 1) := by decide +kernel
theorem dX12_movesAll_1 : decode cX12_movesAll 1 = .ok (.bipush 46, 2) := by decide +kernel
theorem dX12_movesAll_3 : decode cX12_movesAll 3 = .ok (.iload_n 1, 1) := by decide +kernel
theorem dX12_movesAll_4 : decode cX12_movesAll 4 = .ok (.imul, 1) := by decide +kernel
theorem dX12_movesAll_5 : decode cX12_movesAll 5 = .ok (.putfield 471, 3) := by decide +kernel
theorem dX12_movesAll_8 : decode cX12_movesAll 8 = .ok (.aload_n 0, 1) := by decide +kernel
theorem dX12_movesAll_9 : decode cX12_movesAll 9 = .ok (.iload_n 2, 1) := by decide +kernel
theorem dX12_movesAll_10 : decode cX12_movesAll 10 = .ok (.putfield 468, 3) := by decide +kernel
theorem dX12_movesAll_13 : decode cX12_movesAll 13 = .ok (.aload_n 0, 1) := by decide +kernel
theorem dX12_movesAll_14 : decode cX12_movesAll 14 = .ok (.getfield 9, 3) := by decide +kernel
theorem dX12_movesAll_17 : decode cX12_movesAll 17 = .ok (.bipush 8, 2) := by decide +kernel
theorem dX12_movesAll_19 : decode cX12_movesAll 19 = .ok (.aload_n 0, 1) := by decide +kernel
theorem dX12_movesAll_20 : decode cX12_movesAll 20 = .ok (.aload_n 0, 1) := by decide +kernel
theorem dX12_movesAll_21 : decode cX12_movesAll 21 = .ok (.getfield 9, 3) := by decide +kernel
theorem dX12_movesAll_24 : decode cX12_movesAll 24 = .ok (.bipush 8, 2) := by decide +kernel
theorem dX12_movesAll_26 : decode cX12_movesAll 26 = .ok (.iaload, 1) := by decide +kernel
theorem dX12_movesAll_27 : decode cX12_movesAll 27 = .ok (.invokevirtual 474, 3) := by decide +kernel
theorem dX12_movesAll_30 : decode cX12_movesAll 30 = .ok (.iastore, 1) := by decide +kernel
theorem dX12_movesAll_31 : decode cX12_movesAll 31 = .ok (.aload_n 0, 1) := by decide +kernel
theorem dX12_movesAll_32 : decode cX12_movesAll 32 = .ok (.getfield 9, 3) := by decide +kernel
theorem dX12_movesAll_35 : decode cX12_movesAll 35 = .ok (.bipush 9, 2) := by decide +kernel
theorem dX12_movesAll_37 : decode cX12_movesAll 37 = .ok (.aload_n 0, 1) := by decide +kernel
theorem dX12_movesAll_38 : decode cX12_movesAll 38 = .ok (.aload_n 0, 1) := by decide +kernel
theorem dX12_movesAll_39 : decode cX12_movesAll 39 = .ok (.getfield 9, 3) := by decide +kernel
theorem dX12_movesAll_42 : decode cX12_movesAll 42 = .ok (.bipush 9, 2) := by decide +kernel
theorem dX12_movesAll_44 : decode cX12_movesAll 44 = .ok (.iaload, 1) := by decide +kernel
theorem dX12_movesAll_45 : decode cX12_movesAll 45 = .ok (.invokevirtual 474, 3) := by decide +kernel
theorem dX12_movesAll_48 : decode cX12_movesAll 48 = .ok (.iastore, 1) := by decide +kernel
theorem dX12_movesAll_49 : decode cX12_movesAll 49 = .ok (.aload_n 0, 1) := by decide +kernel
theorem dX12_movesAll_50 : decode cX12_movesAll 50 = .ok (.aload_n 0, 1) := by decide +kernel
theorem dX12_movesAll_51 : decode cX12_movesAll 51 = .ok (.getfield 16, 3) := by decide +kernel
theorem dX12_movesAll_54 : decode cX12_movesAll 54 = .ok (.invokevirtual 477, 3) := by decide +kernel
theorem dX12_movesAll_57 : decode cX12_movesAll 57 = .ok (.aload_n 0, 1) := by decide +kernel
theorem dX12_movesAll_58 : decode cX12_movesAll 58 = .ok (.aload_n 0, 1) := by decide +kernel
theorem dX12_movesAll_59 : decode cX12_movesAll 59 = .ok (.getfield 19, 3) := by decide +kernel
theorem dX12_movesAll_62 : decode cX12_movesAll 62 = .ok (.invokevirtual 477, 3) := by decide +kernel
theorem dX12_movesAll_65 : decode cX12_movesAll 65 = .ok (.aload_n 0, 1) := by decide +kernel
theorem dX12_movesAll_66 : decode cX12_movesAll 66 = .ok (.aload_n 0, 1) := by decide +kernel
theorem dX12_movesAll_67 : decode cX12_movesAll 67 = .ok (.getfield 22, 3) := by decide +kernel
theorem dX12_movesAll_70 : decode cX12_movesAll 70 = .ok (.invokevirtual 477, 3) := by decide +kernel
theorem dX12_movesAll_73 : decode cX12_movesAll 73 = .ok (.aload_n 0, 1) := by decide +kernel
theorem dX12_movesAll_74 : decode cX12_movesAll 74 = .ok (.aload_n 0, 1) := by decide +kernel
theorem dX12_movesAll_75 : decode cX12_movesAll 75 = .ok (.getfield 25, 3) := by decide +kernel
theorem dX12_movesAll_78 : decode cX12_movesAll 78 = .ok (.invokevirtual 477, 3) := by decide +kernel
theorem dX12_movesAll_81 : decode cX12_movesAll 81 = .ok (.aload_n 0, 1) := by decide +kernel
theorem dX12_movesAll_82 : decode cX12_movesAll 82 = .ok (.aload_n 0, 1) := by decide +kernel
theorem dX12_movesAll_83 : decode cX12_movesAll 83 = .ok (.getfield 34, 3) := by decide +kernel
theorem dX12_movesAll_86 : decode cX12_movesAll 86 = .ok (.invokevirtual 477, 3) := by decide +kernel
theorem dX12_movesAll_89 : decode cX12_movesAll 89 = .ok (.aload_n 0, 1) := by decide +kernel
theorem dX12_movesAll_90 : decode cX12_movesAll 90 = .ok (.aload_n 0, 1) := by decide +kernel
theorem dX12_movesAll_91 : decode cX12_movesAll 91 = .ok (.getfield 40, 3) := by decide +kernel
theorem dX12_movesAll_94 : decode cX12_movesAll 94 = .ok (.invokevirtual 477, 3) := by decide +kernel
theorem dX12_movesAll_97 : decode cX12_movesAll 97 = .ok (.aload_n 0, 1) := by decide +kernel
theorem dX12_movesAll_98 : decode cX12_movesAll 98 = .ok (.aload_n 0, 1) := by decide +kernel
theorem dX12_movesAll_99 : decode cX12_movesAll 99 = .ok (.getfield 43, 3) := by decide +kernel
theorem dX12_movesAll_102 : decode cX12_movesAll 102 = .ok (.invokevirtual 477, 3) := by decide +kernel
theorem dX12_movesAll_105 : decode cX12_movesAll 105 = .ok (.return_, 1) := by decide +kernel
theorem dX12_keepsAct_0 : decode cX12_keepsAct 0 = .ok (.aload_n 0, 1) := by decide +kernel
theorem dX12_keepsAct_1 : decode cX12_keepsAct 1 = .ok (.getfield 366, 3) := by decide +kernel
theorem dX12_keepsAct_4 : decode cX12_keepsAct 4 = .ok (.bipush 20, 2) := by decide +kernel
theorem dX12_keepsAct_6 : decode cX12_keepsAct 6 = .ok (.if_icmp .ne 44, 3) := by decide +kernel
theorem dX12_keepsAct_9 : decode cX12_keepsAct 9 = .ok (.bipush 46, 2) := by decide +kernel
theorem dX12_keepsAct_11 : decode cX12_keepsAct 11 = .ok (.istore_n 1, 1) := by decide +kernel
theorem dX12_keepsAct_12 : decode cX12_keepsAct 12 = .ok (.iload_n 1, 1) := by decide +kernel
theorem dX12_keepsAct_13 : decode cX12_keepsAct 13 = .ok (.sipush 920, 3) := by decide +kernel
theorem dX12_keepsAct_16 : decode cX12_keepsAct 16 = .ok (.if_icmp .ge 24, 3) := by decide +kernel
theorem dX12_keepsAct_19 : decode cX12_keepsAct 19 = .ok (.aload_n 0, 1) := by decide +kernel
theorem dX12_keepsAct_20 : decode cX12_keepsAct 20 = .ok (.getfield 157, 3) := by decide +kernel
theorem dX12_keepsAct_23 : decode cX12_keepsAct 23 = .ok (.iload_n 1, 1) := by decide +kernel
theorem dX12_keepsAct_24 : decode cX12_keepsAct 24 = .ok (.bipush 46, 2) := by decide +kernel
theorem dX12_keepsAct_26 : decode cX12_keepsAct 26 = .ok (.isub, 1) := by decide +kernel
theorem dX12_keepsAct_27 : decode cX12_keepsAct 27 = .ok (.aload_n 0, 1) := by decide +kernel
theorem dX12_keepsAct_28 : decode cX12_keepsAct 28 = .ok (.getfield 157, 3) := by decide +kernel
theorem dX12_keepsAct_31 : decode cX12_keepsAct 31 = .ok (.iload_n 1, 1) := by decide +kernel
theorem dX12_keepsAct_32 : decode cX12_keepsAct 32 = .ok (.iaload, 1) := by decide +kernel
theorem dX12_keepsAct_33 : decode cX12_keepsAct 33 = .ok (.iastore, 1) := by decide +kernel
theorem dX12_keepsAct_34 : decode cX12_keepsAct 34 = .ok (.iinc 1 1, 3) := by decide +kernel
theorem dX12_keepsAct_37 : decode cX12_keepsAct 37 = .ok (.goto (-25), 3) := by decide +kernel
theorem dX12_keepsAct_40 : decode cX12_keepsAct 40 = .ok (.aload_n 0, 1) := by decide +kernel
theorem dX12_keepsAct_41 : decode cX12_keepsAct 41 = .ok (.dup, 1) := by decide +kernel
theorem dX12_keepsAct_42 : decode cX12_keepsAct 42 = .ok (.getfield 366, 3) := by decide +kernel
theorem dX12_keepsAct_45 : decode cX12_keepsAct 45 = .ok (.iconst 1, 1) := by decide +kernel
theorem dX12_keepsAct_46 : decode cX12_keepsAct 46 = .ok (.isub, 1) := by decide +kernel
theorem dX12_keepsAct_47 : decode cX12_keepsAct 47 = .ok (.putfield 366, 3) := by decide +kernel
theorem dX12_keepsAct_50 : decode cX12_keepsAct 50 = .ok (.aload_n 0, 1) := by decide +kernel
theorem dX12_keepsAct_51 : decode cX12_keepsAct 51 = .ok (.aload_n 0, 1) := by decide +kernel
theorem dX12_keepsAct_52 : decode cX12_keepsAct 52 = .ok (.getfield 366, 3) := by decide +kernel
theorem dX12_keepsAct_55 : decode cX12_keepsAct 55 = .ok (.iconst 0, 1) := by decide +kernel
theorem dX12_keepsAct_56 : decode cX12_keepsAct 56 = .ok (.invokevirtual 481, 3) := by decide +kernel
theorem dX12_keepsAct_59 : decode cX12_keepsAct 59 = .ok (.aload_n 0, 1) := by decide +kernel
theorem dX12_keepsAct_60 : decode cX12_keepsAct 60 = .ok (.dup, 1) := by decide +kernel
theorem dX12_keepsAct_61 : decode cX12_keepsAct 61 = .ok (.getfield 366, 3) := by decide +kernel
theorem dX12_keepsAct_64 : decode cX12_keepsAct 64 = .ok (.iconst 1, 1) := by decide +kernel
theorem dX12_keepsAct_65 : decode cX12_keepsAct 65 = .ok (.iadd, 1) := by decide +kernel
theorem dX12_keepsAct_66 : decode cX12_keepsAct 66 = .ok (.putfield 366, 3) := by decide +kernel
theorem dX12_keepsAct_69 : decode cX12_keepsAct 69 = .ok (.return_, 1) := by decide +kernel
theorem dX12_undo_0 : decode cX12_undo 0 = .ok (.aload_n 0, 1) := by decide +kernel
theorem dX12_undo_1 : decode cX12_undo 1 = .ok (.getfield 366, 3) := by decide +kernel
theorem dX12_undo_4 : decode cX12_undo 4 = .ok (.ifCond .ne 6, 3) := by decide +kernel
theorem dX12_undo_7 : decode cX12_undo 7 = .ok (.bipush (-2), 2) := by decide +kernel
theorem dX12_undo_9 : decode cX12_undo 9 = .ok (.ireturn, 1) := by decide +kernel
theorem dX12_undo_10 : decode cX12_undo 10 = .ok (.aload_n 0, 1) := by decide +kernel
theorem dX12_undo_11 : decode cX12_undo 11 = .ok (.dup, 1) := by decide +kernel
theorem dX12_undo_12 : decode cX12_undo 12 = .ok (.getfield 366, 3) := by decide +kernel
theorem dX12_undo_15 : decode cX12_undo 15 = .ok (.iconst 1, 1) := by decide +kernel
theorem dX12_undo_16 : decode cX12_undo 16 = .ok (.isub, 1) := by decide +kernel
theorem dX12_undo_17 : decode cX12_undo 17 = .ok (.putfield 366, 3) := by decide +kernel
theorem dX12_undo_20 : decode cX12_undo 20 = .ok (.aload_n 0, 1) := by decide +kernel
theorem dX12_undo_21 : decode cX12_undo 21 = .ok (.aload_n 0, 1) := by decide +kernel
theorem dX12_undo_22 : decode cX12_undo 22 = .ok (.getfield 366, 3) := by decide +kernel
theorem dX12_undo_25 : decode cX12_undo 25 = .ok (.iconst 1, 1) := by decide +kernel
theorem dX12_undo_26 : decode cX12_undo 26 = .ok (.invokevirtual 481, 3) := by decide +kernel
theorem dX12_undo_29 : decode cX12_undo 29 = .ok (.aload_n 0, 1) := by decide +kernel
theorem dX12_undo_30 : decode cX12_undo 30 = .ok (.getfield 366, 3) := by decide +kernel
theorem dX12_undo_33 : decode cX12_undo 33 = .ok (.ireturn, 1) := by decide +kernel
theorem dX12_day_0 : decode cX12_day 0 = .ok (.aload_n 0, 1) := by decide +kernel
theorem dX12_day_1 : decode cX12_day 1 = .ok (.invokevirtual 485, 3) := by decide +kernel
theorem dX12_day_4 : decode cX12_day 4 = .ok (.ifCond .eq 16, 3) := by decide +kernel
theorem dX12_day_7 : decode cX12_day 7 = .ok (.aload_n 0, 1) := by decide +kernel
theorem dX12_day_8 : decode cX12_day 8 = .ok (.getfield 9, 3) := by decide +kernel
theorem dX12_day_11 : decode cX12_day 11 = .ok (.bipush 9, 2) := by decide +kernel
theorem dX12_day_13 : decode cX12_day 13 = .ok (.iaload, 1) := by decide +kernel
theorem dX12_day_14 : decode cX12_day 14 = .ok (.sipush 999, 3) := by decide +kernel
theorem dX12_day_17 : decode cX12_day 17 = .ok (.if_icmp .ne 5, 3) := by decide +kernel
theorem dX12_day_20 : decode cX12_day 20 = .ok (.iconst (-1), 1) := by decide +kernel
theorem dX12_day_21 : decode cX12_day 21 = .ok (.ireturn, 1) := by decide +kernel
theorem dX12_day_22 : decode cX12_day 22 = .ok (.aload_n 0, 1) := by decide +kernel
theorem dX12_day_23 : decode cX12_day 23 = .ok (.invokevirtual 488, 3) := by decide +kernel
theorem dX12_day_26 : decode cX12_day 26 = .ok (.aload_n 0, 1) := by decide +kernel
theorem dX12_day_27 : decode cX12_day 27 = .ok (.invokevirtual 491, 3) := by decide +kernel
theorem dX12_day_30 : decode cX12_day 30 = .ok (.ireturn, 1) := by decide +kernel
theorem dX12_ask_0 : decode cX12_ask 0 = .ok (.aload_n 0, 1) := by decide +kernel
theorem dX12_ask_1 : decode cX12_ask 1 = .ok (.iload_n 1, 1) := by decide +kernel
theorem dX12_ask_2 : decode cX12_ask 2 = .ok (.invokevirtual 465, 3) := by decide +kernel
theorem dX12_ask_5 : decode cX12_ask 5 = .ok (.ifCond .eq 25, 3) := by decide +kernel
theorem dX12_ask_8 : decode cX12_ask 8 = .ok (.iload_n 2, 1) := by decide +kernel
theorem dX12_ask_9 : decode cX12_ask 9 = .ok (.i2l, 1) := by decide +kernel
theorem dX12_ask_10 : decode cX12_ask 10 = .ok (.lconst 0, 1) := by decide +kernel
theorem dX12_ask_11 : decode cX12_ask 11 = .ok (.ldc2_w 494, 3) := by decide +kernel
theorem dX12_ask_14 : decode cX12_ask 14 = .ok (.invokestatic 191, 3) := by decide +kernel
theorem dX12_ask_17 : decode cX12_ask 17 = .ok (.ifCond .eq 13, 3) := by decide +kernel
theorem dX12_ask_20 : decode cX12_ask 20 = .ok (.aload_n 0, 1) := by decide +kernel
theorem dX12_ask_21 : decode cX12_ask 21 = .ok (.getfield 34, 3) := by decide +kernel
theorem dX12_ask_24 : decode cX12_ask 24 = .ok (.iload_n 1, 1) := by decide +kernel
theorem dX12_ask_25 : decode cX12_ask 25 = .ok (.iaload, 1) := by decide +kernel
theorem dX12_ask_26 : decode cX12_ask 26 = .ok (.iload_n 2, 1) := by decide +kernel
theorem dX12_ask_27 : decode cX12_ask 27 = .ok (.if_icmp .ne 5, 3) := by decide +kernel
theorem dX12_ask_30 : decode cX12_ask 30 = .ok (.iconst (-1), 1) := by decide +kernel
theorem dX12_ask_31 : decode cX12_ask 31 = .ok (.ireturn, 1) := by decide +kernel
theorem dX12_ask_32 : decode cX12_ask 32 = .ok (.aload_n 0, 1) := by decide +kernel
theorem dX12_ask_33 : decode cX12_ask 33 = .ok (.invokevirtual 488, 3) := by decide +kernel
theorem dX12_ask_36 : decode cX12_ask 36 = .ok (.aload_n 0, 1) := by decide +kernel
theorem dX12_ask_37 : decode cX12_ask 37 = .ok (.getfield 34, 3) := by decide +kernel
theorem dX12_ask_40 : decode cX12_ask 40 = .ok (.iload_n 1, 1) := by decide +kernel
theorem dX12_ask_41 : decode cX12_ask 41 = .ok (.iaload, 1) := by decide +kernel
theorem dX12_ask_42 : decode cX12_ask 42 = .ok (.istore_n 3, 1) := by decide +kernel
theorem dX12_ask_43 : decode cX12_ask 43 = .ok (.aload_n 0, 1) := by decide +kernel
theorem dX12_ask_44 : decode cX12_ask 44 = .ok (.getfield 34, 3) := by decide +kernel
theorem dX12_ask_47 : decode cX12_ask 47 = .ok (.iload_n 1, 1) := by decide +kernel
theorem dX12_ask_48 : decode cX12_ask 48 = .ok (.iload_n 2, 1) := by decide +kernel
theorem dX12_ask_49 : decode cX12_ask 49 = .ok (.iastore, 1) := by decide +kernel
theorem dX12_ask_50 : decode cX12_ask 50 = .ok (.iload_n 3, 1) := by decide +kernel
theorem dX12_ask_51 : decode cX12_ask 51 = .ok (.ireturn, 1) := by decide +kernel
theorem dX12_set_0 : decode cX12_set 0 = .ok (.aload_n 0, 1) := by decide +kernel
theorem dX12_set_1 : decode cX12_set 1 = .ok (.iload_n 1, 1) := by decide +kernel
theorem dX12_set_2 : decode cX12_set 2 = .ok (.invokevirtual 458, 3) := by decide +kernel
theorem dX12_set_5 : decode cX12_set 5 = .ok (.ifCond .eq 27, 3) := by decide +kernel
theorem dX12_set_8 : decode cX12_set 8 = .ok (.iload_n 2, 1) := by decide +kernel
theorem dX12_set_9 : decode cX12_set 9 = .ok (.i2l, 1) := by decide +kernel
theorem dX12_set_10 : decode cX12_set 10 = .ok (.ldc2_w 496, 3) := by decide +kernel
theorem dX12_set_13 : decode cX12_set 13 = .ok (.ldc2_w 498, 3) := by decide +kernel
theorem dX12_set_16 : decode cX12_set 16 = .ok (.invokestatic 191, 3) := by decide +kernel
theorem dX12_set_19 : decode cX12_set 19 = .ok (.ifCond .eq 13, 3) := by decide +kernel
theorem dX12_set_22 : decode cX12_set 22 = .ok (.aload_n 0, 1) := by decide +kernel
theorem dX12_set_23 : decode cX12_set 23 = .ok (.getfield 16, 3) := by decide +kernel
theorem dX12_set_26 : decode cX12_set 26 = .ok (.iload_n 1, 1) := by decide +kernel
theorem dX12_set_27 : decode cX12_set 27 = .ok (.iaload, 1) := by decide +kernel
theorem dX12_set_28 : decode cX12_set 28 = .ok (.iload_n 2, 1) := by decide +kernel
theorem dX12_set_29 : decode cX12_set 29 = .ok (.if_icmp .ne 7, 3) := by decide +kernel
theorem dX12_set_32 : decode cX12_set 32 = .ok (.sipush (-1000), 3) := by decide +kernel
theorem dX12_set_35 : decode cX12_set 35 = .ok (.ireturn, 1) := by decide +kernel
theorem dX12_set_36 : decode cX12_set 36 = .ok (.aload_n 0, 1) := by decide +kernel
theorem dX12_set_37 : decode cX12_set 37 = .ok (.invokevirtual 488, 3) := by decide +kernel
theorem dX12_set_40 : decode cX12_set 40 = .ok (.aload_n 0, 1) := by decide +kernel
theorem dX12_set_41 : decode cX12_set 41 = .ok (.getfield 16, 3) := by decide +kernel
theorem dX12_set_44 : decode cX12_set 44 = .ok (.iload_n 1, 1) := by decide +kernel
theorem dX12_set_45 : decode cX12_set 45 = .ok (.iaload, 1) := by decide +kernel
theorem dX12_set_46 : decode cX12_set 46 = .ok (.istore_n 3, 1) := by decide +kernel
theorem dX12_set_47 : decode cX12_set 47 = .ok (.aload_n 0, 1) := by decide +kernel
theorem dX12_set_48 : decode cX12_set 48 = .ok (.getfield 16, 3) := by decide +kernel
theorem dX12_set_51 : decode cX12_set 51 = .ok (.iload_n 1, 1) := by decide +kernel
theorem dX12_set_52 : decode cX12_set 52 = .ok (.iload_n 2, 1) := by decide +kernel
theorem dX12_set_53 : decode cX12_set 53 = .ok (.iastore, 1) := by decide +kernel
theorem dX12_set_54 : decode cX12_set 54 = .ok (.iload_n 3, 1) := by decide +kernel
theorem dX12_set_55 : decode cX12_set 55 = .ok (.ireturn, 1) := by decide +kernel
theorem dX12_let_0 : decode cX12_let 0 = .ok (.aload_n 0, 1) := by decide +kernel
theorem dX12_let_1 : decode cX12_let 1 = .ok (.iload_n 1, 1) := by decide +kernel
theorem dX12_let_2 : decode cX12_let 2 = .ok (.invokevirtual 458, 3) := by decide +kernel
theorem dX12_let_5 : decode cX12_let 5 = .ok (.ifCond .ne 5, 3) := by decide +kernel
theorem dX12_let_8 : decode cX12_let 8 = .ok (.iconst (-1), 1) := by decide +kernel
theorem dX12_let_9 : decode cX12_let 9 = .ok (.ireturn, 1) := by decide +kernel
theorem dX12_let_10 : decode cX12_let 10 = .ok (.aload_n 0, 1) := by decide +kernel
theorem dX12_let_11 : decode cX12_let 11 = .ok (.invokevirtual 488, 3) := by decide +kernel
theorem dX12_let_14 : decode cX12_let 14 = .ok (.aload_n 0, 1) := by decide +kernel
theorem dX12_let_15 : decode cX12_let 15 = .ok (.getfield 9, 3) := by decide +kernel
theorem dX12_let_18 : decode cX12_let 18 = .ok (.bipush 8, 2) := by decide +kernel
theorem dX12_let_20 : decode cX12_let 20 = .ok (.dup2, 1) := by decide +kernel
theorem dX12_let_21 : decode cX12_let 21 = .ok (.iaload, 1) := by decide +kernel
theorem dX12_let_22 : decode cX12_let 22 = .ok (.iconst 1, 1) := by decide +kernel
theorem dX12_let_23 : decode cX12_let 23 = .ok (.iload_n 1, 1) := by decide +kernel
theorem dX12_let_24 : decode cX12_let 24 = .ok (.ishl, 1) := by decide +kernel
theorem dX12_let_25 : decode cX12_let 25 = .ok (.ixor, 1) := by decide +kernel
theorem dX12_let_26 : decode cX12_let 26 = .ok (.iastore, 1) := by decide +kernel
theorem dX12_let_27 : decode cX12_let 27 = .ok (.aload_n 0, 1) := by decide +kernel
theorem dX12_let_28 : decode cX12_let 28 = .ok (.getfield 9, 3) := by decide +kernel
theorem dX12_let_31 : decode cX12_let 31 = .ok (.bipush 8, 2) := by decide +kernel
theorem dX12_let_33 : decode cX12_let 33 = .ok (.iaload, 1) := by decide +kernel
theorem dX12_let_34 : decode cX12_let 34 = .ok (.iload_n 1, 1) := by decide +kernel
theorem dX12_let_35 : decode cX12_let 35 = .ok (.invokestatic 403, 3) := by decide +kernel
theorem dX12_let_38 : decode cX12_let 38 = .ok (.ifCond .eq 7, 3) := by decide +kernel
theorem dX12_let_41 : decode cX12_let 41 = .ok (.iconst 1, 1) := by decide +kernel
theorem dX12_let_42 : decode cX12_let 42 = .ok (.goto 4, 3) := by decide +kernel
theorem dX12_let_45 : decode cX12_let 45 = .ok (.iconst 0, 1) := by decide +kernel
theorem dX12_let_46 : decode cX12_let 46 = .ok (.ireturn, 1) := by decide +kernel
theorem dX12_keepsAll_0 : decode cX12_keepsAll 0 = .ok (.aload_n 0, 1) := by decide +kernel
theorem dX12_keepsAll_1 : decode cX12_keepsAll 1 = .ok (.iconst 4, 1) := by decide +kernel
theorem dX12_keepsAll_2 : decode cX12_keepsAll 2 = .ok (.iconst 0, 1) := by decide +kernel
theorem dX12_keepsAll_3 : decode cX12_keepsAll 3 = .ok (.invokevirtual 500, 3) := by decide +kernel
theorem dX12_keepsAll_6 : decode cX12_keepsAll 6 = .ok (.return_, 1) := by decide +kernel
theorem dX12_laysBack_0 : decode cX12_laysBack 0 = .ok (.aload_n 0, 1) := by decide +kernel
theorem dX12_laysBack_1 : decode cX12_laysBack 1 = .ok (.iconst 4, 1) := by decide +kernel
theorem dX12_laysBack_2 : decode cX12_laysBack 2 = .ok (.iconst 1, 1) := by decide +kernel
theorem dX12_laysBack_3 : decode cX12_laysBack 3 = .ok (.invokevirtual 500, 3) := by decide +kernel
theorem dX12_laysBack_6 : decode cX12_laysBack 6 = .ok (.return_, 1) := by decide +kernel
theorem dX12_goes_0 : decode cX12_goes 0 = .ok (.aload_n 0, 1) := by decide +kernel
theorem dX12_goes_1 : decode cX12_goes 1 = .ok (.iconst 0, 1) := by decide +kernel
theorem dX12_goes_2 : decode cX12_goes 2 = .ok (.putfield 503, 3) := by decide +kernel
theorem dX12_goes_5 : decode cX12_goes 5 = .ok (.aload_n 0, 1) := by decide +kernel
theorem dX12_goes_6 : decode cX12_goes 6 = .ok (.iconst 0, 1) := by decide +kernel
theorem dX12_goes_7 : decode cX12_goes 7 = .ok (.putfield 506, 3) := by decide +kernel
theorem dX12_goes_10 : decode cX12_goes 10 = .ok (.aload_n 0, 1) := by decide +kernel
theorem dX12_goes_11 : decode cX12_goes 11 = .ok (.iconst 0, 1) := by decide +kernel
theorem dX12_goes_12 : decode cX12_goes 12 = .ok (.putfield 509, 3) := by decide +kernel
theorem dX12_goes_15 : decode cX12_goes 15 = .ok (.iconst 0, 1) := by decide +kernel
theorem dX12_goes_16 : decode cX12_goes 16 = .ok (.istore_n 2, 1) := by decide +kernel
theorem dX12_goes_17 : decode cX12_goes 17 = .ok (.iload_n 2, 1) := by decide +kernel
theorem dX12_goes_18 : decode cX12_goes 18 = .ok (.iload_n 1, 1) := by decide +kernel
theorem dX12_goes_19 : decode cX12_goes 19 = .ok (.if_icmp .ge 48, 3) := by decide +kernel
theorem dX12_goes_22 : decode cX12_goes 22 = .ok (.aload_n 0, 1) := by decide +kernel
theorem dX12_goes_23 : decode cX12_goes 23 = .ok (.dup, 1) := by decide +kernel
theorem dX12_goes_24 : decode cX12_goes 24 = .ok (.getfield 509, 3) := by decide +kernel
theorem dX12_goes_27 : decode cX12_goes 27 = .ok (.aload_n 0, 1) := by decide +kernel
theorem dX12_goes_28 : decode cX12_goes 28 = .ok (.invokevirtual 491, 3) := by decide +kernel
theorem dX12_goes_31 : decode cX12_goes 31 = .ok (.iadd, 1) := by decide +kernel
theorem dX12_goes_32 : decode cX12_goes 32 = .ok (.putfield 509, 3) := by decide +kernel
theorem dX12_goes_35 : decode cX12_goes 35 = .ok (.aload_n 0, 1) := by decide +kernel
theorem dX12_goes_36 : decode cX12_goes 36 = .ok (.dup, 1) := by decide +kernel
theorem dX12_goes_37 : decode cX12_goes 37 = .ok (.getfield 503, 3) := by decide +kernel
theorem dX12_goes_40 : decode cX12_goes 40 = .ok (.aload_n 0, 1) := by decide +kernel
theorem dX12_goes_41 : decode cX12_goes 41 = .ok (.getfield 440, 3) := by decide +kernel
theorem dX12_goes_44 : decode cX12_goes 44 = .ok (.iadd, 1) := by decide +kernel
theorem dX12_goes_45 : decode cX12_goes 45 = .ok (.putfield 503, 3) := by decide +kernel
theorem dX12_goes_48 : decode cX12_goes 48 = .ok (.aload_n 0, 1) := by decide +kernel
theorem dX12_goes_49 : decode cX12_goes 49 = .ok (.dup, 1) := by decide +kernel
theorem dX12_goes_50 : decode cX12_goes 50 = .ok (.getfield 506, 3) := by decide +kernel
theorem dX12_goes_53 : decode cX12_goes 53 = .ok (.aload_n 0, 1) := by decide +kernel
theorem dX12_goes_54 : decode cX12_goes 54 = .ok (.getfield 443, 3) := by decide +kernel
theorem dX12_goes_57 : decode cX12_goes 57 = .ok (.iadd, 1) := by decide +kernel
theorem dX12_goes_58 : decode cX12_goes 58 = .ok (.putfield 506, 3) := by decide +kernel
theorem dX12_goes_61 : decode cX12_goes 61 = .ok (.iinc 2 1, 3) := by decide +kernel
theorem dX12_goes_64 : decode cX12_goes 64 = .ok (.goto (-47), 3) := by decide +kernel
theorem dX12_goes_67 : decode cX12_goes 67 = .ok (.return_, 1) := by decide +kernel
theorem dX12_costsOf_0 : decode cX12_costsOf 0 = .ok (.aload_n 0, 1) := by decide +kernel
theorem dX12_costsOf_1 : decode cX12_costsOf 1 = .ok (.iload_n 1, 1) := by decide +kernel
theorem dX12_costsOf_2 : decode cX12_costsOf 2 = .ok (.invokevirtual 512, 3) := by decide +kernel
theorem dX12_costsOf_5 : decode cX12_costsOf 5 = .ok (.aload_n 0, 1) := by decide +kernel
theorem dX12_costsOf_6 : decode cX12_costsOf 6 = .ok (.invokevirtual 515, 3) := by decide +kernel
theorem dX12_costsOf_9 : decode cX12_costsOf 9 = .ok (.aload_n 0, 1) := by decide +kernel
theorem dX12_costsOf_10 : decode cX12_costsOf 10 = .ok (.getfield 503, 3) := by decide +kernel
theorem dX12_costsOf_13 : decode cX12_costsOf 13 = .ok (.ireturn, 1) := by decide +kernel
theorem dX12_ahead_0 : decode cX12_ahead 0 = .ok (.aload_n 0, 1) := by decide +kernel
theorem dX12_ahead_1 : decode cX12_ahead 1 = .ok (.iload_n 1, 1) := by decide +kernel
theorem dX12_ahead_2 : decode cX12_ahead 2 = .ok (.invokevirtual 458, 3) := by decide +kernel
theorem dX12_ahead_5 : decode cX12_ahead 5 = .ok (.ifCond .eq 27, 3) := by decide +kernel
theorem dX12_ahead_8 : decode cX12_ahead 8 = .ok (.iload_n 2, 1) := by decide +kernel
theorem dX12_ahead_9 : decode cX12_ahead 9 = .ok (.i2l, 1) := by decide +kernel
theorem dX12_ahead_10 : decode cX12_ahead 10 = .ok (.lconst 0, 1) := by decide +kernel
theorem dX12_ahead_11 : decode cX12_ahead 11 = .ok (.ldc2_w 518, 3) := by decide +kernel
theorem dX12_ahead_14 : decode cX12_ahead 14 = .ok (.invokestatic 191, 3) := by decide +kernel
theorem dX12_ahead_17 : decode cX12_ahead 17 = .ok (.ifCond .eq 15, 3) := by decide +kernel
theorem dX12_ahead_20 : decode cX12_ahead 20 = .ok (.iload_n 3, 1) := by decide +kernel
theorem dX12_ahead_21 : decode cX12_ahead 21 = .ok (.i2l, 1) := by decide +kernel
theorem dX12_ahead_22 : decode cX12_ahead 22 = .ok (.lconst 0, 1) := by decide +kernel
theorem dX12_ahead_23 : decode cX12_ahead 23 = .ok (.ldc2_w 520, 3) := by decide +kernel
theorem dX12_ahead_26 : decode cX12_ahead 26 = .ok (.invokestatic 191, 3) := by decide +kernel
theorem dX12_ahead_29 : decode cX12_ahead 29 = .ok (.ifCond .ne 7, 3) := by decide +kernel
theorem dX12_ahead_32 : decode cX12_ahead 32 = .ok (.sipush (-1000), 3) := by decide +kernel
theorem dX12_ahead_35 : decode cX12_ahead 35 = .ok (.ireturn, 1) := by decide +kernel
theorem dX12_ahead_36 : decode cX12_ahead 36 = .ok (.aload_n 0, 1) := by decide +kernel
theorem dX12_ahead_37 : decode cX12_ahead 37 = .ok (.invokevirtual 522, 3) := by decide +kernel
theorem dX12_ahead_40 : decode cX12_ahead 40 = .ok (.aload_n 0, 1) := by decide +kernel
theorem dX12_ahead_41 : decode cX12_ahead 41 = .ok (.iload_n 2, 1) := by decide +kernel
theorem dX12_ahead_42 : decode cX12_ahead 42 = .ok (.invokevirtual 512, 3) := by decide +kernel
theorem dX12_ahead_45 : decode cX12_ahead 45 = .ok (.iload_n 3, 1) := by decide +kernel
theorem dX12_ahead_46 : decode cX12_ahead 46 = .ok (.ifCond .ne 12, 3) := by decide +kernel
theorem dX12_ahead_49 : decode cX12_ahead 49 = .ok (.aload_n 0, 1) := by decide +kernel
theorem dX12_ahead_50 : decode cX12_ahead 50 = .ok (.getfield 16, 3) := by decide +kernel
theorem dX12_ahead_53 : decode cX12_ahead 53 = .ok (.iload_n 1, 1) := by decide +kernel
theorem dX12_ahead_54 : decode cX12_ahead 54 = .ok (.iaload, 1) := by decide +kernel
theorem dX12_ahead_55 : decode cX12_ahead 55 = .ok (.goto 23, 3) := by decide +kernel
theorem dX12_ahead_58 : decode cX12_ahead 58 = .ok (.iload_n 3, 1) := by decide +kernel
theorem dX12_ahead_59 : decode cX12_ahead 59 = .ok (.iconst 1, 1) := by decide +kernel
theorem dX12_ahead_60 : decode cX12_ahead 60 = .ok (.if_icmp .ne 12, 3) := by decide +kernel
theorem dX12_ahead_63 : decode cX12_ahead 63 = .ok (.aload_n 0, 1) := by decide +kernel
theorem dX12_ahead_64 : decode cX12_ahead 64 = .ok (.getfield 22, 3) := by decide +kernel
theorem dX12_ahead_67 : decode cX12_ahead 67 = .ok (.iload_n 1, 1) := by decide +kernel
theorem dX12_ahead_68 : decode cX12_ahead 68 = .ok (.iaload, 1) := by decide +kernel
theorem dX12_ahead_69 : decode cX12_ahead 69 = .ok (.goto 9, 3) := by decide +kernel
theorem dX12_ahead_72 : decode cX12_ahead 72 = .ok (.aload_n 0, 1) := by decide +kernel
theorem dX12_ahead_73 : decode cX12_ahead 73 = .ok (.getfield 25, 3) := by decide +kernel
theorem dX12_ahead_76 : decode cX12_ahead 76 = .ok (.iload_n 1, 1) := by decide +kernel
theorem dX12_ahead_77 : decode cX12_ahead 77 = .ok (.iaload, 1) := by decide +kernel
theorem dX12_ahead_78 : decode cX12_ahead 78 = .ok (.istore 4, 2) := by decide +kernel
theorem dX12_ahead_80 : decode cX12_ahead 80 = .ok (.aload_n 0, 1) := by decide +kernel
theorem dX12_ahead_81 : decode cX12_ahead 81 = .ok (.invokevirtual 515, 3) := by decide +kernel
theorem dX12_ahead_84 : decode cX12_ahead 84 = .ok (.iload 4, 2) := by decide +kernel
theorem dX12_ahead_86 : decode cX12_ahead 86 = .ok (.ireturn, 1) := by decide +kernel
theorem dX12_looksToday_0 : decode cX12_looksToday 0 = .ok (.aload_n 0, 1) := by decide +kernel
theorem dX12_looksToday_1 : decode cX12_looksToday 1 = .ok (.invokevirtual 522, 3) := by decide +kernel
theorem dX12_looksToday_4 : decode cX12_looksToday 4 = .ok (.aload_n 0, 1) := by decide +kernel
theorem dX12_looksToday_5 : decode cX12_looksToday 5 = .ok (.iconst 1, 1) := by decide +kernel
theorem dX12_looksToday_6 : decode cX12_looksToday 6 = .ok (.invokevirtual 512, 3) := by decide +kernel
theorem dX12_looksToday_9 : decode cX12_looksToday 9 = .ok (.aload_n 0, 1) := by decide +kernel
theorem dX12_looksToday_10 : decode cX12_looksToday 10 = .ok (.invokevirtual 515, 3) := by decide +kernel
theorem dX12_looksToday_13 : decode cX12_looksToday 13 = .ok (.return_, 1) := by decide +kernel
theorem dX12_today_0 : decode cX12_today 0 = .ok (.aload_n 0, 1) := by decide +kernel
theorem dX12_today_1 : decode cX12_today 1 = .ok (.iload_n 1, 1) := by decide +kernel
theorem dX12_today_2 : decode cX12_today 2 = .ok (.invokevirtual 465, 3) := by decide +kernel
theorem dX12_today_5 : decode cX12_today 5 = .ok (.ifCond .eq 15, 3) := by decide +kernel
theorem dX12_today_8 : decode cX12_today 8 = .ok (.iload_n 2, 1) := by decide +kernel
theorem dX12_today_9 : decode cX12_today 9 = .ok (.i2l, 1) := by decide +kernel
theorem dX12_today_10 : decode cX12_today 10 = .ok (.lconst 0, 1) := by decide +kernel
theorem dX12_today_11 : decode cX12_today 11 = .ok (.ldc2_w 525, 3) := by decide +kernel
theorem dX12_today_14 : decode cX12_today 14 = .ok (.invokestatic 191, 3) := by decide +kernel
theorem dX12_today_17 : decode cX12_today 17 = .ok (.ifCond .ne 7, 3) := by decide +kernel
theorem dX12_today_20 : decode cX12_today 20 = .ok (.sipush (-1000), 3) := by decide +kernel
theorem dX12_today_23 : decode cX12_today 23 = .ok (.ireturn, 1) := by decide +kernel
theorem dX12_today_24 : decode cX12_today 24 = .ok (.aload_n 0, 1) := by decide +kernel
theorem dX12_today_25 : decode cX12_today 25 = .ok (.invokevirtual 527, 3) := by decide +kernel
theorem dX12_today_28 : decode cX12_today 28 = .ok (.iload_n 2, 1) := by decide +kernel
theorem dX12_today_29 : decode cX12_today 29 = .ok (.ifCond .ne 12, 3) := by decide +kernel
theorem dX12_today_32 : decode cX12_today 32 = .ok (.aload_n 0, 1) := by decide +kernel
theorem dX12_today_33 : decode cX12_today 33 = .ok (.getfield 133, 3) := by decide +kernel
theorem dX12_today_36 : decode cX12_today 36 = .ok (.iload_n 1, 1) := by decide +kernel
theorem dX12_today_37 : decode cX12_today 37 = .ok (.iaload, 1) := by decide +kernel
theorem dX12_today_38 : decode cX12_today 38 = .ok (.goto 37, 3) := by decide +kernel
theorem dX12_today_41 : decode cX12_today 41 = .ok (.iload_n 2, 1) := by decide +kernel
theorem dX12_today_42 : decode cX12_today 42 = .ok (.iconst 1, 1) := by decide +kernel
theorem dX12_today_43 : decode cX12_today 43 = .ok (.if_icmp .ne 12, 3) := by decide +kernel
theorem dX12_today_46 : decode cX12_today 46 = .ok (.aload_n 0, 1) := by decide +kernel
theorem dX12_today_47 : decode cX12_today 47 = .ok (.getfield 136, 3) := by decide +kernel
theorem dX12_today_50 : decode cX12_today 50 = .ok (.iload_n 1, 1) := by decide +kernel
theorem dX12_today_51 : decode cX12_today 51 = .ok (.iaload, 1) := by decide +kernel
theorem dX12_today_52 : decode cX12_today 52 = .ok (.goto 23, 3) := by decide +kernel
theorem dX12_today_55 : decode cX12_today 55 = .ok (.iload_n 2, 1) := by decide +kernel
theorem dX12_today_56 : decode cX12_today 56 = .ok (.iconst 2, 1) := by decide +kernel
theorem dX12_today_57 : decode cX12_today 57 = .ok (.if_icmp .ne 12, 3) := by decide +kernel
theorem dX12_today_60 : decode cX12_today 60 = .ok (.aload_n 0, 1) := by decide +kernel
theorem dX12_today_61 : decode cX12_today 61 = .ok (.getfield 139, 3) := by decide +kernel
theorem dX12_today_64 : decode cX12_today 64 = .ok (.iload_n 1, 1) := by decide +kernel
theorem dX12_today_65 : decode cX12_today 65 = .ok (.iaload, 1) := by decide +kernel
theorem dX12_today_66 : decode cX12_today 66 = .ok (.goto 9, 3) := by decide +kernel
theorem dX12_today_69 : decode cX12_today 69 = .ok (.aload_n 0, 1) := by decide +kernel
theorem dX12_today_70 : decode cX12_today 70 = .ok (.getfield 142, 3) := by decide +kernel
theorem dX12_today_73 : decode cX12_today 73 = .ok (.iload_n 1, 1) := by decide +kernel
theorem dX12_today_74 : decode cX12_today 74 = .ok (.iaload, 1) := by decide +kernel
theorem dX12_today_75 : decode cX12_today 75 = .ok (.ireturn, 1) := by decide +kernel
theorem dX12_ends_0 : decode cX12_ends 0 = .ok (.aload_n 0, 1) := by decide +kernel
theorem dX12_ends_1 : decode cX12_ends 1 = .ok (.iload_n 1, 1) := by decide +kernel
theorem dX12_ends_2 : decode cX12_ends 2 = .ok (.invokevirtual 458, 3) := by decide +kernel
theorem dX12_ends_5 : decode cX12_ends 5 = .ok (.ifCond .ne 7, 3) := by decide +kernel
theorem dX12_ends_8 : decode cX12_ends 8 = .ok (.sipush (-1000), 3) := by decide +kernel
theorem dX12_ends_11 : decode cX12_ends 11 = .ok (.ireturn, 1) := by decide +kernel
theorem dX12_ends_12 : decode cX12_ends 12 = .ok (.aload_n 0, 1) := by decide +kernel
theorem dX12_ends_13 : decode cX12_ends 13 = .ok (.invokevirtual 527, 3) := by decide +kernel
theorem dX12_ends_16 : decode cX12_ends 16 = .ok (.aload_n 0, 1) := by decide +kernel
theorem dX12_ends_17 : decode cX12_ends 17 = .ok (.iload_n 1, 1) := by decide +kernel
theorem dX12_ends_18 : decode cX12_ends 18 = .ok (.invokevirtual 462, 3) := by decide +kernel
theorem dX12_ends_21 : decode cX12_ends 21 = .ok (.ifCond .ne 7, 3) := by decide +kernel
theorem dX12_ends_24 : decode cX12_ends 24 = .ok (.iconst (-1), 1) := by decide +kernel
theorem dX12_ends_25 : decode cX12_ends 25 = .ok (.goto 9, 3) := by decide +kernel
theorem dX12_ends_28 : decode cX12_ends 28 = .ok (.aload_n 0, 1) := by decide +kernel
theorem dX12_ends_29 : decode cX12_ends 29 = .ok (.getfield 124, 3) := by decide +kernel
theorem dX12_ends_32 : decode cX12_ends 32 = .ok (.iload_n 1, 1) := by decide +kernel
theorem dX12_ends_33 : decode cX12_ends 33 = .ok (.iaload, 1) := by decide +kernel
theorem dX12_ends_34 : decode cX12_ends 34 = .ok (.ireturn, 1) := by decide +kernel
theorem dX12_chain_0 : decode cX12_chain 0 = .ok (.aload_n 0, 1) := by decide +kernel
theorem dX12_chain_1 : decode cX12_chain 1 = .ok (.invokevirtual 485, 3) := by decide +kernel
theorem dX12_chain_4 : decode cX12_chain 4 = .ok (.ifCond .eq 13, 3) := by decide +kernel
theorem dX12_chain_7 : decode cX12_chain 7 = .ok (.iload_n 1, 1) := by decide +kernel
theorem dX12_chain_8 : decode cX12_chain 8 = .ok (.i2l, 1) := by decide +kernel
theorem dX12_chain_9 : decode cX12_chain 9 = .ok (.lconst 0, 1) := by decide +kernel
theorem dX12_chain_10 : decode cX12_chain 10 = .ok (.lconst 1, 1) := by decide +kernel
theorem dX12_chain_11 : decode cX12_chain 11 = .ok (.invokestatic 191, 3) := by decide +kernel
theorem dX12_chain_14 : decode cX12_chain 14 = .ok (.ifCond .ne 7, 3) := by decide +kernel
theorem dX12_chain_17 : decode cX12_chain 17 = .ok (.sipush (-1000), 3) := by decide +kernel
theorem dX12_chain_20 : decode cX12_chain 20 = .ok (.ireturn, 1) := by decide +kernel
theorem dX12_chain_21 : decode cX12_chain 21 = .ok (.aload_n 0, 1) := by decide +kernel
theorem dX12_chain_22 : decode cX12_chain 22 = .ok (.invokevirtual 527, 3) := by decide +kernel
theorem dX12_chain_25 : decode cX12_chain 25 = .ok (.iconst (-1), 1) := by decide +kernel
theorem dX12_chain_26 : decode cX12_chain 26 = .ok (.istore_n 2, 1) := by decide +kernel
theorem dX12_chain_27 : decode cX12_chain 27 = .ok (.iconst 0, 1) := by decide +kernel
theorem dX12_chain_28 : decode cX12_chain 28 = .ok (.istore_n 3, 1) := by decide +kernel
theorem dX12_chain_29 : decode cX12_chain 29 = .ok (.iload_n 3, 1) := by decide +kernel
theorem dX12_chain_30 : decode cX12_chain 30 = .ok (.aload_n 0, 1) := by decide +kernel
theorem dX12_chain_31 : decode cX12_chain 31 = .ok (.getfield 9, 3) := by decide +kernel
theorem dX12_chain_34 : decode cX12_chain 34 = .ok (.iconst 3, 1) := by decide +kernel
theorem dX12_chain_35 : decode cX12_chain 35 = .ok (.iaload, 1) := by decide +kernel
theorem dX12_chain_36 : decode cX12_chain 36 = .ok (.if_icmp .ge 39, 3) := by decide +kernel
theorem dX12_chain_39 : decode cX12_chain 39 = .ok (.aload_n 0, 1) := by decide +kernel
theorem dX12_chain_40 : decode cX12_chain 40 = .ok (.iload_n 3, 1) := by decide +kernel
theorem dX12_chain_41 : decode cX12_chain 41 = .ok (.invokevirtual 462, 3) := by decide +kernel
theorem dX12_chain_44 : decode cX12_chain 44 = .ok (.ifCond .eq 25, 3) := by decide +kernel
theorem dX12_chain_47 : decode cX12_chain 47 = .ok (.iload_n 2, 1) := by decide +kernel
theorem dX12_chain_48 : decode cX12_chain 48 = .ok (.iconst (-1), 1) := by decide +kernel
theorem dX12_chain_49 : decode cX12_chain 49 = .ok (.if_icmp .eq 18, 3) := by decide +kernel
theorem dX12_chain_52 : decode cX12_chain 52 = .ok (.aload_n 0, 1) := by decide +kernel
theorem dX12_chain_53 : decode cX12_chain 53 = .ok (.getfield 124, 3) := by decide +kernel
theorem dX12_chain_56 : decode cX12_chain 56 = .ok (.iload_n 3, 1) := by decide +kernel
theorem dX12_chain_57 : decode cX12_chain 57 = .ok (.iaload, 1) := by decide +kernel
theorem dX12_chain_58 : decode cX12_chain 58 = .ok (.aload_n 0, 1) := by decide +kernel
theorem dX12_chain_59 : decode cX12_chain 59 = .ok (.getfield 124, 3) := by decide +kernel
theorem dX12_chain_62 : decode cX12_chain 62 = .ok (.iload_n 2, 1) := by decide +kernel
theorem dX12_chain_63 : decode cX12_chain 63 = .ok (.iaload, 1) := by decide +kernel
theorem dX12_chain_64 : decode cX12_chain 64 = .ok (.if_icmp .le 5, 3) := by decide +kernel
theorem dX12_chain_67 : decode cX12_chain 67 = .ok (.iload_n 3, 1) := by decide +kernel
theorem dX12_chain_68 : decode cX12_chain 68 = .ok (.istore_n 2, 1) := by decide +kernel
theorem dX12_chain_69 : decode cX12_chain 69 = .ok (.iinc 3 1, 3) := by decide +kernel
theorem dX12_chain_72 : decode cX12_chain 72 = .ok (.goto (-43), 3) := by decide +kernel
theorem dX12_chain_75 : decode cX12_chain 75 = .ok (.iload_n 2, 1) := by decide +kernel
theorem dX12_chain_76 : decode cX12_chain 76 = .ok (.iconst (-1), 1) := by decide +kernel
theorem dX12_chain_77 : decode cX12_chain 77 = .ok (.if_icmp .eq 7, 3) := by decide +kernel
theorem dX12_chain_80 : decode cX12_chain 80 = .ok (.iload_n 1, 1) := by decide +kernel
theorem dX12_chain_81 : decode cX12_chain 81 = .ok (.ifCond .ne 7, 3) := by decide +kernel
theorem dX12_chain_84 : decode cX12_chain 84 = .ok (.iload_n 2, 1) := by decide +kernel
theorem dX12_chain_85 : decode cX12_chain 85 = .ok (.goto 9, 3) := by decide +kernel
theorem dX12_chain_88 : decode cX12_chain 88 = .ok (.aload_n 0, 1) := by decide +kernel
theorem dX12_chain_89 : decode cX12_chain 89 = .ok (.getfield 124, 3) := by decide +kernel
theorem dX12_chain_92 : decode cX12_chain 92 = .ok (.iload_n 2, 1) := by decide +kernel
theorem dX12_chain_93 : decode cX12_chain 93 = .ok (.iaload, 1) := by decide +kernel
theorem dX12_chain_94 : decode cX12_chain 94 = .ok (.ireturn, 1) := by decide +kernel
theorem dX12_minute_0 : decode cX12_minute 0 = .ok (.aload_n 0, 1) := by decide +kernel
theorem dX12_minute_1 : decode cX12_minute 1 = .ok (.iload_n 1, 1) := by decide +kernel
theorem dX12_minute_2 : decode cX12_minute 2 = .ok (.invokevirtual 465, 3) := by decide +kernel
theorem dX12_minute_5 : decode cX12_minute 5 = .ok (.ifCond .eq 15, 3) := by decide +kernel
theorem dX12_minute_8 : decode cX12_minute 8 = .ok (.iload_n 2, 1) := by decide +kernel
theorem dX12_minute_9 : decode cX12_minute 9 = .ok (.i2l, 1) := by decide +kernel
theorem dX12_minute_10 : decode cX12_minute 10 = .ok (.lconst 0, 1) := by decide +kernel
theorem dX12_minute_11 : decode cX12_minute 11 = .ok (.ldc2_w 520, 3) := by decide +kernel
theorem dX12_minute_14 : decode cX12_minute 14 = .ok (.invokestatic 191, 3) := by decide +kernel
theorem dX12_minute_17 : decode cX12_minute 17 = .ok (.ifCond .ne 5, 3) := by decide +kernel
theorem dX12_minute_20 : decode cX12_minute 20 = .ok (.iconst (-1), 1) := by decide +kernel
theorem dX12_minute_21 : decode cX12_minute 21 = .ok (.ireturn, 1) := by decide +kernel
theorem dX12_minute_22 : decode cX12_minute 22 = .ok (.aload_n 0, 1) := by decide +kernel
theorem dX12_minute_23 : decode cX12_minute 23 = .ok (.invokevirtual 522, 3) := by decide +kernel
theorem dX12_minute_26 : decode cX12_minute 26 = .ok (.aload_n 0, 1) := by decide +kernel
theorem dX12_minute_27 : decode cX12_minute 27 = .ok (.getfield 34, 3) := by decide +kernel
theorem dX12_minute_30 : decode cX12_minute 30 = .ok (.iload_n 1, 1) := by decide +kernel
theorem dX12_minute_31 : decode cX12_minute 31 = .ok (.iaload, 1) := by decide +kernel
theorem dX12_minute_32 : decode cX12_minute 32 = .ok (.istore_n 3, 1) := by decide +kernel
theorem dX12_minute_33 : decode cX12_minute 33 = .ok (.iconst (-1), 1) := by decide +kernel
theorem dX12_minute_34 : decode cX12_minute 34 = .ok (.istore 4, 2) := by decide +kernel
theorem dX12_minute_36 : decode cX12_minute 36 = .ok (.iconst 0, 1) := by decide +kernel
theorem dX12_minute_37 : decode cX12_minute 37 = .ok (.istore 5, 2) := by decide +kernel
theorem dX12_minute_39 : decode cX12_minute 39 = .ok (.iconst 0, 1) := by decide +kernel
theorem dX12_minute_40 : decode cX12_minute 40 = .ok (.istore 6, 2) := by decide +kernel
theorem dX12_minute_42 : decode cX12_minute 42 = .ok (.iload_n 3, 1) := by decide +kernel
theorem dX12_minute_43 : decode cX12_minute 43 = .ok (.bipush 60, 2) := by decide +kernel
theorem dX12_minute_45 : decode cX12_minute 45 = .ok (.isub, 1) := by decide +kernel
theorem dX12_minute_46 : decode cX12_minute 46 = .ok (.istore 7, 2) := by decide +kernel
theorem dX12_minute_48 : decode cX12_minute 48 = .ok (.iload 7, 2) := by decide +kernel
theorem dX12_minute_50 : decode cX12_minute 50 = .ok (.iload_n 3, 1) := by decide +kernel
theorem dX12_minute_51 : decode cX12_minute 51 = .ok (.bipush 60, 2) := by decide +kernel
theorem dX12_minute_53 : decode cX12_minute 53 = .ok (.iadd, 1) := by decide +kernel
theorem dX12_minute_54 : decode cX12_minute 54 = .ok (.if_icmp .gt 88, 3) := by decide +kernel
theorem dX12_minute_57 : decode cX12_minute 57 = .ok (.iload 7, 2) := by decide +kernel
theorem dX12_minute_59 : decode cX12_minute 59 = .ok (.i2l, 1) := by decide +kernel
theorem dX12_minute_60 : decode cX12_minute 60 = .ok (.lconst 0, 1) := by decide +kernel
theorem dX12_minute_61 : decode cX12_minute 61 = .ok (.ldc2_w 494, 3) := by decide +kernel
theorem dX12_minute_64 : decode cX12_minute 64 = .ok (.invokestatic 191, 3) := by decide +kernel
theorem dX12_minute_67 : decode cX12_minute 67 = .ok (.ifCond .eq 69, 3) := by decide +kernel
theorem dX12_minute_70 : decode cX12_minute 70 = .ok (.aload_n 0, 1) := by decide +kernel
theorem dX12_minute_71 : decode cX12_minute 71 = .ok (.getfield 34, 3) := by decide +kernel
theorem dX12_minute_74 : decode cX12_minute 74 = .ok (.iload_n 1, 1) := by decide +kernel
theorem dX12_minute_75 : decode cX12_minute 75 = .ok (.iload 7, 2) := by decide +kernel
theorem dX12_minute_77 : decode cX12_minute 77 = .ok (.iastore, 1) := by decide +kernel
theorem dX12_minute_78 : decode cX12_minute 78 = .ok (.aload_n 0, 1) := by decide +kernel
theorem dX12_minute_79 : decode cX12_minute 79 = .ok (.iconst 1, 1) := by decide +kernel
theorem dX12_minute_80 : decode cX12_minute 80 = .ok (.invokevirtual 512, 3) := by decide +kernel
theorem dX12_minute_83 : decode cX12_minute 83 = .ok (.aload_n 0, 1) := by decide +kernel
theorem dX12_minute_84 : decode cX12_minute 84 = .ok (.invokevirtual 515, 3) := by decide +kernel
theorem dX12_minute_87 : decode cX12_minute 87 = .ok (.iload 4, 2) := by decide +kernel
theorem dX12_minute_89 : decode cX12_minute 89 = .ok (.iconst (-1), 1) := by decide +kernel
theorem dX12_minute_90 : decode cX12_minute 90 = .ok (.if_icmp .eq 30, 3) := by decide +kernel
theorem dX12_minute_93 : decode cX12_minute 93 = .ok (.aload_n 0, 1) := by decide +kernel
theorem dX12_minute_94 : decode cX12_minute 94 = .ok (.getfield 509, 3) := by decide +kernel
theorem dX12_minute_97 : decode cX12_minute 97 = .ok (.iload 5, 2) := by decide +kernel
theorem dX12_minute_99 : decode cX12_minute 99 = .ok (.if_icmp .lt 21, 3) := by decide +kernel
theorem dX12_minute_102 : decode cX12_minute 102 = .ok (.aload_n 0, 1) := by decide +kernel
theorem dX12_minute_103 : decode cX12_minute 103 = .ok (.getfield 509, 3) := by decide +kernel
theorem dX12_minute_106 : decode cX12_minute 106 = .ok (.iload 5, 2) := by decide +kernel
theorem dX12_minute_108 : decode cX12_minute 108 = .ok (.if_icmp .ne 28, 3) := by decide +kernel
theorem dX12_minute_111 : decode cX12_minute 111 = .ok (.aload_n 0, 1) := by decide +kernel
theorem dX12_minute_112 : decode cX12_minute 112 = .ok (.getfield 503, 3) := by decide +kernel
theorem dX12_minute_115 : decode cX12_minute 115 = .ok (.iload 6, 2) := by decide +kernel
theorem dX12_minute_117 : decode cX12_minute 117 = .ok (.if_icmp .ge 19, 3) := by decide +kernel
theorem dX12_minute_120 : decode cX12_minute 120 = .ok (.iload 7, 2) := by decide +kernel
theorem dX12_minute_122 : decode cX12_minute 122 = .ok (.istore 4, 2) := by decide +kernel
theorem dX12_minute_124 : decode cX12_minute 124 = .ok (.aload_n 0, 1) := by decide +kernel
theorem dX12_minute_125 : decode cX12_minute 125 = .ok (.getfield 509, 3) := by decide +kernel
theorem dX12_minute_128 : decode cX12_minute 128 = .ok (.istore 5, 2) := by decide +kernel
theorem dX12_minute_130 : decode cX12_minute 130 = .ok (.aload_n 0, 1) := by decide +kernel
theorem dX12_minute_131 : decode cX12_minute 131 = .ok (.getfield 503, 3) := by decide +kernel
theorem dX12_minute_134 : decode cX12_minute 134 = .ok (.istore 6, 2) := by decide +kernel
theorem dX12_minute_136 : decode cX12_minute 136 = .ok (.iinc 7 1, 3) := by decide +kernel
theorem dX12_minute_139 : decode cX12_minute 139 = .ok (.goto (-91), 3) := by decide +kernel
theorem dX12_minute_142 : decode cX12_minute 142 = .ok (.aload_n 0, 1) := by decide +kernel
theorem dX12_minute_143 : decode cX12_minute 143 = .ok (.getfield 34, 3) := by decide +kernel
theorem dX12_minute_146 : decode cX12_minute 146 = .ok (.iload_n 1, 1) := by decide +kernel
theorem dX12_minute_147 : decode cX12_minute 147 = .ok (.iload_n 3, 1) := by decide +kernel
theorem dX12_minute_148 : decode cX12_minute 148 = .ok (.iastore, 1) := by decide +kernel
theorem dX12_minute_149 : decode cX12_minute 149 = .ok (.iload_n 2, 1) := by decide +kernel
theorem dX12_minute_150 : decode cX12_minute 150 = .ok (.ifCond .ne 8, 3) := by decide +kernel
theorem dX12_minute_153 : decode cX12_minute 153 = .ok (.iload 4, 2) := by decide +kernel
theorem dX12_minute_155 : decode cX12_minute 155 = .ok (.goto 15, 3) := by decide +kernel
theorem dX12_minute_158 : decode cX12_minute 158 = .ok (.iload_n 2, 1) := by decide +kernel
theorem dX12_minute_159 : decode cX12_minute 159 = .ok (.iconst 1, 1) := by decide +kernel
theorem dX12_minute_160 : decode cX12_minute 160 = .ok (.if_icmp .ne 8, 3) := by decide +kernel
theorem dX12_minute_163 : decode cX12_minute 163 = .ok (.iload 5, 2) := by decide +kernel
theorem dX12_minute_165 : decode cX12_minute 165 = .ok (.goto 5, 3) := by decide +kernel
theorem dX12_minute_168 : decode cX12_minute 168 = .ok (.iload 6, 2) := by decide +kernel
theorem dX12_minute_170 : decode cX12_minute 170 = .ok (.ireturn, 1) := by decide +kernel
theorem dX12_leave_0 : decode cX12_leave 0 = .ok (.aload_n 0, 1) := by decide +kernel
theorem dX12_leave_1 : decode cX12_leave 1 = .ok (.invokevirtual 485, 3) := by decide +kernel
theorem dX12_leave_4 : decode cX12_leave 4 = .ok (.ifCond .eq 13, 3) := by decide +kernel
theorem dX12_leave_7 : decode cX12_leave 7 = .ok (.iload_n 1, 1) := by decide +kernel
theorem dX12_leave_8 : decode cX12_leave 8 = .ok (.i2l, 1) := by decide +kernel
theorem dX12_leave_9 : decode cX12_leave 9 = .ok (.lconst 0, 1) := by decide +kernel
theorem dX12_leave_10 : decode cX12_leave 10 = .ok (.lconst 1, 1) := by decide +kernel
theorem dX12_leave_11 : decode cX12_leave 11 = .ok (.invokestatic 191, 3) := by decide +kernel
theorem dX12_leave_14 : decode cX12_leave 14 = .ok (.ifCond .ne 5, 3) := by decide +kernel
theorem dX12_leave_17 : decode cX12_leave 17 = .ok (.iconst (-1), 1) := by decide +kernel
theorem dX12_leave_18 : decode cX12_leave 18 = .ok (.ireturn, 1) := by decide +kernel
theorem dX12_leave_19 : decode cX12_leave 19 = .ok (.bipush (-2), 2) := by decide +kernel
theorem dX12_leave_21 : decode cX12_leave 21 = .ok (.istore_n 2, 1) := by decide +kernel
theorem dX12_leave_22 : decode cX12_leave 22 = .ok (.bipush (-2), 2) := by decide +kernel
theorem dX12_leave_24 : decode cX12_leave 24 = .ok (.istore_n 3, 1) := by decide +kernel
theorem dX12_leave_25 : decode cX12_leave 25 = .ok (.aload_n 0, 1) := by decide +kernel
theorem dX12_leave_26 : decode cX12_leave 26 = .ok (.invokevirtual 522, 3) := by decide +kernel
theorem dX12_leave_29 : decode cX12_leave 29 = .ok (.iconst 0, 1) := by decide +kernel
theorem dX12_leave_30 : decode cX12_leave 30 = .ok (.istore 4, 2) := by decide +kernel
theorem dX12_leave_32 : decode cX12_leave 32 = .ok (.iload 4, 2) := by decide +kernel
theorem dX12_leave_34 : decode cX12_leave 34 = .ok (.aload_n 0, 1) := by decide +kernel
theorem dX12_leave_35 : decode cX12_leave 35 = .ok (.getfield 9, 3) := by decide +kernel
theorem dX12_leave_38 : decode cX12_leave 38 = .ok (.iconst 4, 1) := by decide +kernel
theorem dX12_leave_39 : decode cX12_leave 39 = .ok (.iaload, 1) := by decide +kernel
theorem dX12_leave_40 : decode cX12_leave 40 = .ok (.if_icmp .ge 40, 3) := by decide +kernel
theorem dX12_leave_43 : decode cX12_leave 43 = .ok (.aload_n 0, 1) := by decide +kernel
theorem dX12_leave_44 : decode cX12_leave 44 = .ok (.iload 4, 2) := by decide +kernel
theorem dX12_leave_46 : decode cX12_leave 46 = .ok (.putfield 151, 3) := by decide +kernel
theorem dX12_leave_49 : decode cX12_leave 49 = .ok (.aload_n 0, 1) := by decide +kernel
theorem dX12_leave_50 : decode cX12_leave 50 = .ok (.iconst 1, 1) := by decide +kernel
theorem dX12_leave_51 : decode cX12_leave 51 = .ok (.invokevirtual 530, 3) := by decide +kernel
theorem dX12_leave_54 : decode cX12_leave 54 = .ok (.istore 5, 2) := by decide +kernel
theorem dX12_leave_56 : decode cX12_leave 56 = .ok (.iload_n 2, 1) := by decide +kernel
theorem dX12_leave_57 : decode cX12_leave 57 = .ok (.bipush (-2), 2) := by decide +kernel
theorem dX12_leave_59 : decode cX12_leave 59 = .ok (.if_icmp .eq 9, 3) := by decide +kernel
theorem dX12_leave_62 : decode cX12_leave 62 = .ok (.iload 5, 2) := by decide +kernel
theorem dX12_leave_64 : decode cX12_leave 64 = .ok (.iload_n 3, 1) := by decide +kernel
theorem dX12_leave_65 : decode cX12_leave 65 = .ok (.if_icmp .ge 9, 3) := by decide +kernel
theorem dX12_leave_68 : decode cX12_leave 68 = .ok (.iload 4, 2) := by decide +kernel
theorem dX12_leave_70 : decode cX12_leave 70 = .ok (.istore_n 2, 1) := by decide +kernel
theorem dX12_leave_71 : decode cX12_leave 71 = .ok (.iload 5, 2) := by decide +kernel
theorem dX12_leave_73 : decode cX12_leave 73 = .ok (.istore_n 3, 1) := by decide +kernel
theorem dX12_leave_74 : decode cX12_leave 74 = .ok (.iinc 4 1, 3) := by decide +kernel
theorem dX12_leave_77 : decode cX12_leave 77 = .ok (.goto (-45), 3) := by decide +kernel
theorem dX12_leave_80 : decode cX12_leave 80 = .ok (.aload_n 0, 1) := by decide +kernel
theorem dX12_leave_81 : decode cX12_leave 81 = .ok (.iconst (-1), 1) := by decide +kernel
theorem dX12_leave_82 : decode cX12_leave 82 = .ok (.putfield 151, 3) := by decide +kernel
theorem dX12_leave_85 : decode cX12_leave 85 = .ok (.iload_n 1, 1) := by decide +kernel
theorem dX12_leave_86 : decode cX12_leave 86 = .ok (.ifCond .ne 7, 3) := by decide +kernel
theorem dX12_leave_89 : decode cX12_leave 89 = .ok (.iload_n 2, 1) := by decide +kernel
theorem dX12_leave_90 : decode cX12_leave 90 = .ok (.goto 4, 3) := by decide +kernel
theorem dX12_leave_93 : decode cX12_leave 93 = .ok (.iload_n 3, 1) := by decide +kernel
theorem dX12_leave_94 : decode cX12_leave 94 = .ok (.ireturn, 1) := by decide +kernel
theorem dX12_worth_0 : decode cX12_worth 0 = .ok (.aload_n 0, 1) := by decide +kernel
theorem dX12_worth_1 : decode cX12_worth 1 = .ok (.iload_n 1, 1) := by decide +kernel
theorem dX12_worth_2 : decode cX12_worth 2 = .ok (.invokevirtual 465, 3) := by decide +kernel
theorem dX12_worth_5 : decode cX12_worth 5 = .ok (.ifCond .eq 15, 3) := by decide +kernel
theorem dX12_worth_8 : decode cX12_worth 8 = .ok (.iload_n 2, 1) := by decide +kernel
theorem dX12_worth_9 : decode cX12_worth 9 = .ok (.i2l, 1) := by decide +kernel
theorem dX12_worth_10 : decode cX12_worth 10 = .ok (.lconst 1, 1) := by decide +kernel
theorem dX12_worth_11 : decode cX12_worth 11 = .ok (.ldc2_w 498, 3) := by decide +kernel
theorem dX12_worth_14 : decode cX12_worth 14 = .ok (.invokestatic 191, 3) := by decide +kernel
theorem dX12_worth_17 : decode cX12_worth 17 = .ok (.ifCond .ne 7, 3) := by decide +kernel
theorem dX12_worth_20 : decode cX12_worth 20 = .ok (.ldc_w 417, 3) := by decide +kernel
theorem dX12_worth_23 : decode cX12_worth 23 = .ok (.ireturn, 1) := by decide +kernel
theorem dX12_worth_24 : decode cX12_worth 24 = .ok (.aload_n 0, 1) := by decide +kernel
theorem dX12_worth_25 : decode cX12_worth 25 = .ok (.invokevirtual 522, 3) := by decide +kernel
theorem dX12_worth_28 : decode cX12_worth 28 = .ok (.aload_n 0, 1) := by decide +kernel
theorem dX12_worth_29 : decode cX12_worth 29 = .ok (.iload_n 2, 1) := by decide +kernel
theorem dX12_worth_30 : decode cX12_worth 30 = .ok (.invokevirtual 530, 3) := by decide +kernel
theorem dX12_worth_33 : decode cX12_worth 33 = .ok (.istore_n 3, 1) := by decide +kernel
theorem dX12_worth_34 : decode cX12_worth 34 = .ok (.aload_n 0, 1) := by decide +kernel
theorem dX12_worth_35 : decode cX12_worth 35 = .ok (.iload_n 1, 1) := by decide +kernel
theorem dX12_worth_36 : decode cX12_worth 36 = .ok (.putfield 151, 3) := by decide +kernel
theorem dX12_worth_39 : decode cX12_worth 39 = .ok (.iload_n 3, 1) := by decide +kernel
theorem dX12_worth_40 : decode cX12_worth 40 = .ok (.aload_n 0, 1) := by decide +kernel
theorem dX12_worth_41 : decode cX12_worth 41 = .ok (.iload_n 2, 1) := by decide +kernel
theorem dX12_worth_42 : decode cX12_worth 42 = .ok (.invokevirtual 530, 3) := by decide +kernel
theorem dX12_worth_45 : decode cX12_worth 45 = .ok (.isub, 1) := by decide +kernel
theorem dX12_worth_46 : decode cX12_worth 46 = .ok (.istore 4, 2) := by decide +kernel
theorem dX12_worth_48 : decode cX12_worth 48 = .ok (.aload_n 0, 1) := by decide +kernel
theorem dX12_worth_49 : decode cX12_worth 49 = .ok (.iconst (-1), 1) := by decide +kernel
theorem dX12_worth_50 : decode cX12_worth 50 = .ok (.putfield 151, 3) := by decide +kernel
theorem dX12_worth_53 : decode cX12_worth 53 = .ok (.iload 4, 2) := by decide +kernel
theorem dX12_worth_55 : decode cX12_worth 55 = .ok (.ireturn, 1) := by decide +kernel
theorem dX12_laysRests_0 : decode cX12_laysRests 0 = .ok (.aload_n 0, 1) := by decide +kernel
theorem dX12_laysRests_1 : decode cX12_laysRests 1 = .ok (.invokevirtual 522, 3) := by decide +kernel
theorem dX12_laysRests_4 : decode cX12_laysRests 4 = .ok (.aload_n 0, 1) := by decide +kernel
theorem dX12_laysRests_5 : decode cX12_laysRests 5 = .ok (.iload_n 1, 1) := by decide +kernel
theorem dX12_laysRests_6 : decode cX12_laysRests 6 = .ok (.putfield 154, 3) := by decide +kernel
theorem dX12_laysRests_9 : decode cX12_laysRests 9 = .ok (.iconst 0, 1) := by decide +kernel
theorem dX12_laysRests_10 : decode cX12_laysRests 10 = .ok (.istore_n 2, 1) := by decide +kernel
theorem dX12_laysRests_11 : decode cX12_laysRests 11 = .ok (.iload_n 2, 1) := by decide +kernel
theorem dX12_laysRests_12 : decode cX12_laysRests 12 = .ok (.bipush 49, 2) := by decide +kernel
theorem dX12_laysRests_14 : decode cX12_laysRests 14 = .ok (.if_icmp .ge 64, 3) := by decide +kernel
theorem dX12_laysRests_17 : decode cX12_laysRests 17 = .ok (.aload_n 0, 1) := by decide +kernel
theorem dX12_laysRests_18 : decode cX12_laysRests 18 = .ok (.bipush 10, 2) := by decide +kernel
theorem dX12_laysRests_20 : decode cX12_laysRests 20 = .ok (.iload_n 2, 1) := by decide +kernel
theorem dX12_laysRests_21 : decode cX12_laysRests 21 = .ok (.bipush 7, 2) := by decide +kernel
theorem dX12_laysRests_23 : decode cX12_laysRests 23 = .ok (.idiv, 1) := by decide +kernel
theorem dX12_laysRests_24 : decode cX12_laysRests 24 = .ok (.imul, 1) := by decide +kernel
theorem dX12_laysRests_25 : decode cX12_laysRests 25 = .ok (.putfield 418, 3) := by decide +kernel
theorem dX12_laysRests_28 : decode cX12_laysRests 28 = .ok (.aload_n 0, 1) := by decide +kernel
theorem dX12_laysRests_29 : decode cX12_laysRests 29 = .ok (.bipush 10, 2) := by decide +kernel
theorem dX12_laysRests_31 : decode cX12_laysRests 31 = .ok (.iload_n 2, 1) := by decide +kernel
theorem dX12_laysRests_32 : decode cX12_laysRests 32 = .ok (.bipush 7, 2) := by decide +kernel
theorem dX12_laysRests_34 : decode cX12_laysRests 34 = .ok (.irem, 1) := by decide +kernel
theorem dX12_laysRests_35 : decode cX12_laysRests 35 = .ok (.imul, 1) := by decide +kernel
theorem dX12_laysRests_36 : decode cX12_laysRests 36 = .ok (.putfield 424, 3) := by decide +kernel
theorem dX12_laysRests_39 : decode cX12_laysRests 39 = .ok (.aload_n 0, 1) := by decide +kernel
theorem dX12_laysRests_40 : decode cX12_laysRests 40 = .ok (.iconst 1, 1) := by decide +kernel
theorem dX12_laysRests_41 : decode cX12_laysRests 41 = .ok (.invokevirtual 512, 3) := by decide +kernel
theorem dX12_laysRests_44 : decode cX12_laysRests 44 = .ok (.aload_n 0, 1) := by decide +kernel
theorem dX12_laysRests_45 : decode cX12_laysRests 45 = .ok (.invokevirtual 515, 3) := by decide +kernel
theorem dX12_laysRests_48 : decode cX12_laysRests 48 = .ok (.aload_n 0, 1) := by decide +kernel
theorem dX12_laysRests_49 : decode cX12_laysRests 49 = .ok (.getfield 163, 3) := by decide +kernel
theorem dX12_laysRests_52 : decode cX12_laysRests 52 = .ok (.iload_n 2, 1) := by decide +kernel
theorem dX12_laysRests_53 : decode cX12_laysRests 53 = .ok (.aload_n 0, 1) := by decide +kernel
theorem dX12_laysRests_54 : decode cX12_laysRests 54 = .ok (.getfield 145, 3) := by decide +kernel
theorem dX12_laysRests_57 : decode cX12_laysRests 57 = .ok (.iload_n 1, 1) := by decide +kernel
theorem dX12_laysRests_58 : decode cX12_laysRests 58 = .ok (.iaload, 1) := by decide +kernel
theorem dX12_laysRests_59 : decode cX12_laysRests 59 = .ok (.iastore, 1) := by decide +kernel
theorem dX12_laysRests_60 : decode cX12_laysRests 60 = .ok (.aload_n 0, 1) := by decide +kernel
theorem dX12_laysRests_61 : decode cX12_laysRests 61 = .ok (.getfield 166, 3) := by decide +kernel
theorem dX12_laysRests_64 : decode cX12_laysRests 64 = .ok (.iload_n 2, 1) := by decide +kernel
theorem dX12_laysRests_65 : decode cX12_laysRests 65 = .ok (.aload_n 0, 1) := by decide +kernel
theorem dX12_laysRests_66 : decode cX12_laysRests 66 = .ok (.getfield 148, 3) := by decide +kernel
theorem dX12_laysRests_69 : decode cX12_laysRests 69 = .ok (.iload_n 1, 1) := by decide +kernel
theorem dX12_laysRests_70 : decode cX12_laysRests 70 = .ok (.iaload, 1) := by decide +kernel
theorem dX12_laysRests_71 : decode cX12_laysRests 71 = .ok (.iastore, 1) := by decide +kernel
theorem dX12_laysRests_72 : decode cX12_laysRests 72 = .ok (.iinc 2 1, 3) := by decide +kernel
theorem dX12_laysRests_75 : decode cX12_laysRests 75 = .ok (.goto (-64), 3) := by decide +kernel
theorem dX12_laysRests_78 : decode cX12_laysRests 78 = .ok (.aload_n 0, 1) := by decide +kernel
theorem dX12_laysRests_79 : decode cX12_laysRests 79 = .ok (.iconst (-1), 1) := by decide +kernel
theorem dX12_laysRests_80 : decode cX12_laysRests 80 = .ok (.putfield 154, 3) := by decide +kernel
theorem dX12_laysRests_83 : decode cX12_laysRests 83 = .ok (.return_, 1) := by decide +kernel
theorem dX12_isRest_0 : decode cX12_isRest 0 = .ok (.iconst 0, 1) := by decide +kernel
theorem dX12_isRest_1 : decode cX12_isRest 1 = .ok (.istore_n 2, 1) := by decide +kernel
theorem dX12_isRest_2 : decode cX12_isRest 2 = .ok (.iload_n 2, 1) := by decide +kernel
theorem dX12_isRest_3 : decode cX12_isRest 3 = .ok (.bipush 7, 2) := by decide +kernel
theorem dX12_isRest_5 : decode cX12_isRest 5 = .ok (.if_icmp .ge 56, 3) := by decide +kernel
theorem dX12_isRest_8 : decode cX12_isRest 8 = .ok (.aload_n 0, 1) := by decide +kernel
theorem dX12_isRest_9 : decode cX12_isRest 9 = .ok (.getfield 163, 3) := by decide +kernel
theorem dX12_isRest_12 : decode cX12_isRest 12 = .ok (.bipush 7, 2) := by decide +kernel
theorem dX12_isRest_14 : decode cX12_isRest 14 = .ok (.iload_n 2, 1) := by decide +kernel
theorem dX12_isRest_15 : decode cX12_isRest 15 = .ok (.imul, 1) := by decide +kernel
theorem dX12_isRest_16 : decode cX12_isRest 16 = .ok (.iload_n 1, 1) := by decide +kernel
theorem dX12_isRest_17 : decode cX12_isRest 17 = .ok (.bipush 7, 2) := by decide +kernel
theorem dX12_isRest_19 : decode cX12_isRest 19 = .ok (.irem, 1) := by decide +kernel
theorem dX12_isRest_20 : decode cX12_isRest 20 = .ok (.iadd, 1) := by decide +kernel
theorem dX12_isRest_21 : decode cX12_isRest 21 = .ok (.iaload, 1) := by decide +kernel
theorem dX12_isRest_22 : decode cX12_isRest 22 = .ok (.aload_n 0, 1) := by decide +kernel
theorem dX12_isRest_23 : decode cX12_isRest 23 = .ok (.getfield 163, 3) := by decide +kernel
theorem dX12_isRest_26 : decode cX12_isRest 26 = .ok (.iload_n 1, 1) := by decide +kernel
theorem dX12_isRest_27 : decode cX12_isRest 27 = .ok (.iaload, 1) := by decide +kernel
theorem dX12_isRest_28 : decode cX12_isRest 28 = .ok (.if_icmp .lt 25, 3) := by decide +kernel
theorem dX12_isRest_31 : decode cX12_isRest 31 = .ok (.aload_n 0, 1) := by decide +kernel
theorem dX12_isRest_32 : decode cX12_isRest 32 = .ok (.getfield 166, 3) := by decide +kernel
theorem dX12_isRest_35 : decode cX12_isRest 35 = .ok (.iload_n 1, 1) := by decide +kernel
theorem dX12_isRest_36 : decode cX12_isRest 36 = .ok (.iload_n 1, 1) := by decide +kernel
theorem dX12_isRest_37 : decode cX12_isRest 37 = .ok (.bipush 7, 2) := by decide +kernel
theorem dX12_isRest_39 : decode cX12_isRest 39 = .ok (.irem, 1) := by decide +kernel
theorem dX12_isRest_40 : decode cX12_isRest 40 = .ok (.isub, 1) := by decide +kernel
theorem dX12_isRest_41 : decode cX12_isRest 41 = .ok (.iload_n 2, 1) := by decide +kernel
theorem dX12_isRest_42 : decode cX12_isRest 42 = .ok (.iadd, 1) := by decide +kernel
theorem dX12_isRest_43 : decode cX12_isRest 43 = .ok (.iaload, 1) := by decide +kernel
theorem dX12_isRest_44 : decode cX12_isRest 44 = .ok (.aload_n 0, 1) := by decide +kernel
theorem dX12_isRest_45 : decode cX12_isRest 45 = .ok (.getfield 166, 3) := by decide +kernel
theorem dX12_isRest_48 : decode cX12_isRest 48 = .ok (.iload_n 1, 1) := by decide +kernel
theorem dX12_isRest_49 : decode cX12_isRest 49 = .ok (.iaload, 1) := by decide +kernel
theorem dX12_isRest_50 : decode cX12_isRest 50 = .ok (.if_icmp .ge 5, 3) := by decide +kernel
theorem dX12_isRest_53 : decode cX12_isRest 53 = .ok (.iconst 0, 1) := by decide +kernel
theorem dX12_isRest_54 : decode cX12_isRest 54 = .ok (.ireturn, 1) := by decide +kernel
theorem dX12_isRest_55 : decode cX12_isRest 55 = .ok (.iinc 2 1, 3) := by decide +kernel
theorem dX12_isRest_58 : decode cX12_isRest 58 = .ok (.goto (-56), 3) := by decide +kernel
theorem dX12_isRest_61 : decode cX12_isRest 61 = .ok (.iconst 1, 1) := by decide +kernel
theorem dX12_isRest_62 : decode cX12_isRest 62 = .ok (.ireturn, 1) := by decide +kernel
theorem dX12_rests_0 : decode cX12_rests 0 = .ok (.aload_n 0, 1) := by decide +kernel
theorem dX12_rests_1 : decode cX12_rests 1 = .ok (.iload_n 1, 1) := by decide +kernel
theorem dX12_rests_2 : decode cX12_rests 2 = .ok (.invokevirtual 465, 3) := by decide +kernel
theorem dX12_rests_5 : decode cX12_rests 5 = .ok (.ifCond .eq 15, 3) := by decide +kernel
theorem dX12_rests_8 : decode cX12_rests 8 = .ok (.iload_n 2, 1) := by decide +kernel
theorem dX12_rests_9 : decode cX12_rests 9 = .ok (.i2l, 1) := by decide +kernel
theorem dX12_rests_10 : decode cX12_rests 10 = .ok (.lconst 0, 1) := by decide +kernel
theorem dX12_rests_11 : decode cX12_rests 11 = .ok (.ldc2_w 520, 3) := by decide +kernel
theorem dX12_rests_14 : decode cX12_rests 14 = .ok (.invokestatic 191, 3) := by decide +kernel
theorem dX12_rests_17 : decode cX12_rests 17 = .ok (.ifCond .ne 5, 3) := by decide +kernel
theorem dX12_rests_20 : decode cX12_rests 20 = .ok (.iconst (-1), 1) := by decide +kernel
theorem dX12_rests_21 : decode cX12_rests 21 = .ok (.ireturn, 1) := by decide +kernel
theorem dX12_rests_22 : decode cX12_rests 22 = .ok (.aload_n 0, 1) := by decide +kernel
theorem dX12_rests_23 : decode cX12_rests 23 = .ok (.iload_n 1, 1) := by decide +kernel
theorem dX12_rests_24 : decode cX12_rests 24 = .ok (.invokevirtual 533, 3) := by decide +kernel
theorem dX12_rests_27 : decode cX12_rests 27 = .ok (.iconst 0, 1) := by decide +kernel
theorem dX12_rests_28 : decode cX12_rests 28 = .ok (.istore_n 3, 1) := by decide +kernel
theorem dX12_rests_29 : decode cX12_rests 29 = .ok (.bipush (-2), 2) := by decide +kernel
theorem dX12_rests_31 : decode cX12_rests 31 = .ok (.istore 4, 2) := by decide +kernel
theorem dX12_rests_33 : decode cX12_rests 33 = .ok (.iconst 0, 1) := by decide +kernel
theorem dX12_rests_34 : decode cX12_rests 34 = .ok (.istore 5, 2) := by decide +kernel
theorem dX12_rests_36 : decode cX12_rests 36 = .ok (.iload 5, 2) := by decide +kernel
theorem dX12_rests_38 : decode cX12_rests 38 = .ok (.bipush 49, 2) := by decide +kernel
theorem dX12_rests_40 : decode cX12_rests 40 = .ok (.if_icmp .ge 34, 3) := by decide +kernel
theorem dX12_rests_43 : decode cX12_rests 43 = .ok (.aload_n 0, 1) := by decide +kernel
theorem dX12_rests_44 : decode cX12_rests 44 = .ok (.iload 5, 2) := by decide +kernel
theorem dX12_rests_46 : decode cX12_rests 46 = .ok (.invokevirtual 536, 3) := by decide +kernel
theorem dX12_rests_49 : decode cX12_rests 49 = .ok (.ifCond .eq 19, 3) := by decide +kernel
theorem dX12_rests_52 : decode cX12_rests 52 = .ok (.iload_n 3, 1) := by decide +kernel
theorem dX12_rests_53 : decode cX12_rests 53 = .ok (.ifCond .ne 8, 3) := by decide +kernel
theorem dX12_rests_56 : decode cX12_rests 56 = .ok (.iload 5, 2) := by decide +kernel
theorem dX12_rests_58 : decode cX12_rests 58 = .ok (.goto 5, 3) := by decide +kernel
theorem dX12_rests_61 : decode cX12_rests 61 = .ok (.iload 4, 2) := by decide +kernel
theorem dX12_rests_63 : decode cX12_rests 63 = .ok (.istore 4, 2) := by decide +kernel
theorem dX12_rests_65 : decode cX12_rests 65 = .ok (.iinc 3 1, 3) := by decide +kernel
theorem dX12_rests_68 : decode cX12_rests 68 = .ok (.iinc 5 1, 3) := by decide +kernel
theorem dX12_rests_71 : decode cX12_rests 71 = .ok (.goto (-35), 3) := by decide +kernel
theorem dX12_rests_74 : decode cX12_rests 74 = .ok (.iload_n 2, 1) := by decide +kernel
theorem dX12_rests_75 : decode cX12_rests 75 = .ok (.ifCond .eq 10, 3) := by decide +kernel
theorem dX12_rests_78 : decode cX12_rests 78 = .ok (.iload 4, 2) := by decide +kernel
theorem dX12_rests_80 : decode cX12_rests 80 = .ok (.bipush (-2), 2) := by decide +kernel
theorem dX12_rests_82 : decode cX12_rests 82 = .ok (.if_icmp .ne 14, 3) := by decide +kernel
theorem dX12_rests_85 : decode cX12_rests 85 = .ok (.iload_n 2, 1) := by decide +kernel
theorem dX12_rests_86 : decode cX12_rests 86 = .ok (.ifCond .ne 7, 3) := by decide +kernel
theorem dX12_rests_89 : decode cX12_rests 89 = .ok (.iload_n 3, 1) := by decide +kernel
theorem dX12_rests_90 : decode cX12_rests 90 = .ok (.goto 5, 3) := by decide +kernel
theorem dX12_rests_93 : decode cX12_rests 93 = .ok (.bipush (-2), 2) := by decide +kernel
theorem dX12_rests_95 : decode cX12_rests 95 = .ok (.ireturn, 1) := by decide +kernel
theorem dX12_rests_96 : decode cX12_rests 96 = .ok (.iload_n 2, 1) := by decide +kernel
theorem dX12_rests_97 : decode cX12_rests 97 = .ok (.iconst 1, 1) := by decide +kernel
theorem dX12_rests_98 : decode cX12_rests 98 = .ok (.if_icmp .ne 14, 3) := by decide +kernel
theorem dX12_rests_101 : decode cX12_rests 101 = .ok (.bipush 10, 2) := by decide +kernel
theorem dX12_rests_103 : decode cX12_rests 103 = .ok (.iload 4, 2) := by decide +kernel
theorem dX12_rests_105 : decode cX12_rests 105 = .ok (.bipush 7, 2) := by decide +kernel
theorem dX12_rests_107 : decode cX12_rests 107 = .ok (.idiv, 1) := by decide +kernel
theorem dX12_rests_108 : decode cX12_rests 108 = .ok (.imul, 1) := by decide +kernel
theorem dX12_rests_109 : decode cX12_rests 109 = .ok (.goto 11, 3) := by decide +kernel
theorem dX12_rests_112 : decode cX12_rests 112 = .ok (.bipush 10, 2) := by decide +kernel
theorem dX12_rests_114 : decode cX12_rests 114 = .ok (.iload 4, 2) := by decide +kernel
theorem dX12_rests_116 : decode cX12_rests 116 = .ok (.bipush 7, 2) := by decide +kernel
theorem dX12_rests_118 : decode cX12_rests 118 = .ok (.irem, 1) := by decide +kernel
theorem dX12_rests_119 : decode cX12_rests 119 = .ok (.imul, 1) := by decide +kernel
theorem dX12_rests_120 : decode cX12_rests 120 = .ok (.ireturn, 1) := by decide +kernel
theorem dX12_areAlike_0 : decode cX12_areAlike 0 = .ok (.iconst 0, 1) := by decide +kernel
theorem dX12_areAlike_1 : decode cX12_areAlike 1 = .ok (.istore_n 3, 1) := by decide +kernel
theorem dX12_areAlike_2 : decode cX12_areAlike 2 = .ok (.iload_n 3, 1) := by decide +kernel
theorem dX12_areAlike_3 : decode cX12_areAlike 3 = .ok (.aload_n 0, 1) := by decide +kernel
theorem dX12_areAlike_4 : decode cX12_areAlike 4 = .ok (.getfield 9, 3) := by decide +kernel
theorem dX12_areAlike_7 : decode cX12_areAlike 7 = .ok (.iconst 3, 1) := by decide +kernel
theorem dX12_areAlike_8 : decode cX12_areAlike 8 = .ok (.iaload, 1) := by decide +kernel
theorem dX12_areAlike_9 : decode cX12_areAlike 9 = .ok (.if_icmp .ge 57, 3) := by decide +kernel
theorem dX12_areAlike_12 : decode cX12_areAlike 12 = .ok (.aload_n 0, 1) := by decide +kernel
theorem dX12_areAlike_13 : decode cX12_areAlike 13 = .ok (.getfield 169, 3) := by decide +kernel
theorem dX12_areAlike_16 : decode cX12_areAlike 16 = .ok (.iconst 5, 1) := by decide +kernel
theorem dX12_areAlike_17 : decode cX12_areAlike 17 = .ok (.iload_n 1, 1) := by decide +kernel
theorem dX12_areAlike_18 : decode cX12_areAlike 18 = .ok (.imul, 1) := by decide +kernel
theorem dX12_areAlike_19 : decode cX12_areAlike 19 = .ok (.iload_n 3, 1) := by decide +kernel
theorem dX12_areAlike_20 : decode cX12_areAlike 20 = .ok (.iadd, 1) := by decide +kernel
theorem dX12_areAlike_21 : decode cX12_areAlike 21 = .ok (.iaload, 1) := by decide +kernel
theorem dX12_areAlike_22 : decode cX12_areAlike 22 = .ok (.aload_n 0, 1) := by decide +kernel
theorem dX12_areAlike_23 : decode cX12_areAlike 23 = .ok (.getfield 169, 3) := by decide +kernel
theorem dX12_areAlike_26 : decode cX12_areAlike 26 = .ok (.iconst 5, 1) := by decide +kernel
theorem dX12_areAlike_27 : decode cX12_areAlike 27 = .ok (.iload_n 2, 1) := by decide +kernel
theorem dX12_areAlike_28 : decode cX12_areAlike 28 = .ok (.imul, 1) := by decide +kernel
theorem dX12_areAlike_29 : decode cX12_areAlike 29 = .ok (.iload_n 3, 1) := by decide +kernel
theorem dX12_areAlike_30 : decode cX12_areAlike 30 = .ok (.iadd, 1) := by decide +kernel
theorem dX12_areAlike_31 : decode cX12_areAlike 31 = .ok (.iaload, 1) := by decide +kernel
theorem dX12_areAlike_32 : decode cX12_areAlike 32 = .ok (.if_icmp .ne 26, 3) := by decide +kernel
theorem dX12_areAlike_35 : decode cX12_areAlike 35 = .ok (.aload_n 0, 1) := by decide +kernel
theorem dX12_areAlike_36 : decode cX12_areAlike 36 = .ok (.getfield 172, 3) := by decide +kernel
theorem dX12_areAlike_39 : decode cX12_areAlike 39 = .ok (.iconst 5, 1) := by decide +kernel
theorem dX12_areAlike_40 : decode cX12_areAlike 40 = .ok (.iload_n 1, 1) := by decide +kernel
theorem dX12_areAlike_41 : decode cX12_areAlike 41 = .ok (.imul, 1) := by decide +kernel
theorem dX12_areAlike_42 : decode cX12_areAlike 42 = .ok (.iload_n 3, 1) := by decide +kernel
theorem dX12_areAlike_43 : decode cX12_areAlike 43 = .ok (.iadd, 1) := by decide +kernel
theorem dX12_areAlike_44 : decode cX12_areAlike 44 = .ok (.iaload, 1) := by decide +kernel
theorem dX12_areAlike_45 : decode cX12_areAlike 45 = .ok (.aload_n 0, 1) := by decide +kernel
theorem dX12_areAlike_46 : decode cX12_areAlike 46 = .ok (.getfield 172, 3) := by decide +kernel
theorem dX12_areAlike_49 : decode cX12_areAlike 49 = .ok (.iconst 5, 1) := by decide +kernel
theorem dX12_areAlike_50 : decode cX12_areAlike 50 = .ok (.iload_n 2, 1) := by decide +kernel
theorem dX12_areAlike_51 : decode cX12_areAlike 51 = .ok (.imul, 1) := by decide +kernel
theorem dX12_areAlike_52 : decode cX12_areAlike 52 = .ok (.iload_n 3, 1) := by decide +kernel
theorem dX12_areAlike_53 : decode cX12_areAlike 53 = .ok (.iadd, 1) := by decide +kernel
theorem dX12_areAlike_54 : decode cX12_areAlike 54 = .ok (.iaload, 1) := by decide +kernel
theorem dX12_areAlike_55 : decode cX12_areAlike 55 = .ok (.if_icmp .eq 5, 3) := by decide +kernel
theorem dX12_areAlike_58 : decode cX12_areAlike 58 = .ok (.iconst 0, 1) := by decide +kernel
theorem dX12_areAlike_59 : decode cX12_areAlike 59 = .ok (.ireturn, 1) := by decide +kernel
theorem dX12_areAlike_60 : decode cX12_areAlike 60 = .ok (.iinc 3 1, 3) := by decide +kernel
theorem dX12_areAlike_63 : decode cX12_areAlike 63 = .ok (.goto (-61), 3) := by decide +kernel
theorem dX12_areAlike_66 : decode cX12_areAlike 66 = .ok (.iconst 1, 1) := by decide +kernel
theorem dX12_areAlike_67 : decode cX12_areAlike 67 = .ok (.ireturn, 1) := by decide +kernel
theorem dX12_again_0 : decode cX12_again 0 = .ok (.aload_n 0, 1) := by decide +kernel
theorem dX12_again_1 : decode cX12_again 1 = .ok (.invokevirtual 485, 3) := by decide +kernel
theorem dX12_again_4 : decode cX12_again 4 = .ok (.ifCond .eq 13, 3) := by decide +kernel
theorem dX12_again_7 : decode cX12_again 7 = .ok (.iload_n 1, 1) := by decide +kernel
theorem dX12_again_8 : decode cX12_again 8 = .ok (.i2l, 1) := by decide +kernel
theorem dX12_again_9 : decode cX12_again 9 = .ok (.lconst 0, 1) := by decide +kernel
theorem dX12_again_10 : decode cX12_again 10 = .ok (.lconst 1, 1) := by decide +kernel
theorem dX12_again_11 : decode cX12_again 11 = .ok (.invokestatic 191, 3) := by decide +kernel
theorem dX12_again_14 : decode cX12_again 14 = .ok (.ifCond .ne 5, 3) := by decide +kernel
theorem dX12_again_17 : decode cX12_again 17 = .ok (.iconst (-1), 1) := by decide +kernel
theorem dX12_again_18 : decode cX12_again 18 = .ok (.ireturn, 1) := by decide +kernel
theorem dX12_again_19 : decode cX12_again 19 = .ok (.bipush (-2), 2) := by decide +kernel
theorem dX12_again_21 : decode cX12_again 21 = .ok (.istore_n 2, 1) := by decide +kernel
theorem dX12_again_22 : decode cX12_again 22 = .ok (.bipush (-2), 2) := by decide +kernel
theorem dX12_again_24 : decode cX12_again 24 = .ok (.istore_n 3, 1) := by decide +kernel
theorem dX12_again_25 : decode cX12_again 25 = .ok (.aload_n 0, 1) := by decide +kernel
theorem dX12_again_26 : decode cX12_again 26 = .ok (.invokevirtual 522, 3) := by decide +kernel
theorem dX12_again_29 : decode cX12_again 29 = .ok (.iconst 0, 1) := by decide +kernel
theorem dX12_again_30 : decode cX12_again 30 = .ok (.istore 4, 2) := by decide +kernel
theorem dX12_again_32 : decode cX12_again 32 = .ok (.iload 4, 2) := by decide +kernel
theorem dX12_again_34 : decode cX12_again 34 = .ok (.bipush 100, 2) := by decide +kernel
theorem dX12_again_36 : decode cX12_again 36 = .ok (.if_icmp .ge 121, 3) := by decide +kernel
theorem dX12_again_39 : decode cX12_again 39 = .ok (.iload_n 2, 1) := by decide +kernel
theorem dX12_again_40 : decode cX12_again 40 = .ok (.bipush (-2), 2) := by decide +kernel
theorem dX12_again_42 : decode cX12_again 42 = .ok (.if_icmp .ne 115, 3) := by decide +kernel
theorem dX12_again_45 : decode cX12_again 45 = .ok (.iconst 0, 1) := by decide +kernel
theorem dX12_again_46 : decode cX12_again 46 = .ok (.istore 5, 2) := by decide +kernel
theorem dX12_again_48 : decode cX12_again 48 = .ok (.iload 5, 2) := by decide +kernel
theorem dX12_again_50 : decode cX12_again 50 = .ok (.iconst 5, 1) := by decide +kernel
theorem dX12_again_51 : decode cX12_again 51 = .ok (.if_icmp .ge 47, 3) := by decide +kernel
theorem dX12_again_54 : decode cX12_again 54 = .ok (.aload_n 0, 1) := by decide +kernel
theorem dX12_again_55 : decode cX12_again 55 = .ok (.getfield 169, 3) := by decide +kernel
theorem dX12_again_58 : decode cX12_again 58 = .ok (.iconst 5, 1) := by decide +kernel
theorem dX12_again_59 : decode cX12_again 59 = .ok (.iload 4, 2) := by decide +kernel
theorem dX12_again_61 : decode cX12_again 61 = .ok (.imul, 1) := by decide +kernel
theorem dX12_again_62 : decode cX12_again 62 = .ok (.iload 5, 2) := by decide +kernel
theorem dX12_again_64 : decode cX12_again 64 = .ok (.iadd, 1) := by decide +kernel
theorem dX12_again_65 : decode cX12_again 65 = .ok (.aload_n 0, 1) := by decide +kernel
theorem dX12_again_66 : decode cX12_again 66 = .ok (.getfield 16, 3) := by decide +kernel
theorem dX12_again_69 : decode cX12_again 69 = .ok (.iload 5, 2) := by decide +kernel
theorem dX12_again_71 : decode cX12_again 71 = .ok (.iaload, 1) := by decide +kernel
theorem dX12_again_72 : decode cX12_again 72 = .ok (.iastore, 1) := by decide +kernel
theorem dX12_again_73 : decode cX12_again 73 = .ok (.aload_n 0, 1) := by decide +kernel
theorem dX12_again_74 : decode cX12_again 74 = .ok (.getfield 172, 3) := by decide +kernel
theorem dX12_again_77 : decode cX12_again 77 = .ok (.iconst 5, 1) := by decide +kernel
theorem dX12_again_78 : decode cX12_again 78 = .ok (.iload 4, 2) := by decide +kernel
theorem dX12_again_80 : decode cX12_again 80 = .ok (.imul, 1) := by decide +kernel
theorem dX12_again_81 : decode cX12_again 81 = .ok (.iload 5, 2) := by decide +kernel
theorem dX12_again_83 : decode cX12_again 83 = .ok (.iadd, 1) := by decide +kernel
theorem dX12_again_84 : decode cX12_again 84 = .ok (.aload_n 0, 1) := by decide +kernel
theorem dX12_again_85 : decode cX12_again 85 = .ok (.getfield 19, 3) := by decide +kernel
theorem dX12_again_88 : decode cX12_again 88 = .ok (.iload 5, 2) := by decide +kernel
theorem dX12_again_90 : decode cX12_again 90 = .ok (.iaload, 1) := by decide +kernel
theorem dX12_again_91 : decode cX12_again 91 = .ok (.iastore, 1) := by decide +kernel
theorem dX12_again_92 : decode cX12_again 92 = .ok (.iinc 5 1, 3) := by decide +kernel
theorem dX12_again_95 : decode cX12_again 95 = .ok (.goto (-47), 3) := by decide +kernel
theorem dX12_again_98 : decode cX12_again 98 = .ok (.iload 4, 2) := by decide +kernel
theorem dX12_again_100 : decode cX12_again 100 = .ok (.iconst 1, 1) := by decide +kernel
theorem dX12_again_101 : decode cX12_again 101 = .ok (.isub, 1) := by decide +kernel
theorem dX12_again_102 : decode cX12_again 102 = .ok (.istore 5, 2) := by decide +kernel
theorem dX12_again_104 : decode cX12_again 104 = .ok (.iload 5, 2) := by decide +kernel
theorem dX12_again_106 : decode cX12_again 106 = .ok (.ifCond .lt 40, 3) := by decide +kernel
theorem dX12_again_109 : decode cX12_again 109 = .ok (.iload_n 2, 1) := by decide +kernel
theorem dX12_again_110 : decode cX12_again 110 = .ok (.bipush (-2), 2) := by decide +kernel
theorem dX12_again_112 : decode cX12_again 112 = .ok (.if_icmp .ne 34, 3) := by decide +kernel
theorem dX12_again_115 : decode cX12_again 115 = .ok (.aload_n 0, 1) := by decide +kernel
theorem dX12_again_116 : decode cX12_again 116 = .ok (.iload 5, 2) := by decide +kernel
theorem dX12_again_118 : decode cX12_again 118 = .ok (.iload 4, 2) := by decide +kernel
theorem dX12_again_120 : decode cX12_again 120 = .ok (.invokevirtual 539, 3) := by decide +kernel
theorem dX12_again_123 : decode cX12_again 123 = .ok (.ifCond .eq 17, 3) := by decide +kernel
theorem dX12_again_126 : decode cX12_again 126 = .ok (.aload_n 0, 1) := by decide +kernel
theorem dX12_again_127 : decode cX12_again 127 = .ok (.getfield 9, 3) := by decide +kernel
theorem dX12_again_130 : decode cX12_again 130 = .ok (.bipush 9, 2) := by decide +kernel
theorem dX12_again_132 : decode cX12_again 132 = .ok (.iaload, 1) := by decide +kernel
theorem dX12_again_133 : decode cX12_again 133 = .ok (.istore_n 2, 1) := by decide +kernel
theorem dX12_again_134 : decode cX12_again 134 = .ok (.iload 4, 2) := by decide +kernel
theorem dX12_again_136 : decode cX12_again 136 = .ok (.iload 5, 2) := by decide +kernel
theorem dX12_again_138 : decode cX12_again 138 = .ok (.isub, 1) := by decide +kernel
theorem dX12_again_139 : decode cX12_again 139 = .ok (.istore_n 3, 1) := by decide +kernel
theorem dX12_again_140 : decode cX12_again 140 = .ok (.iinc 5 (-1), 3) := by decide +kernel
theorem dX12_again_143 : decode cX12_again 143 = .ok (.goto (-39), 3) := by decide +kernel
theorem dX12_again_146 : decode cX12_again 146 = .ok (.aload_n 0, 1) := by decide +kernel
theorem dX12_again_147 : decode cX12_again 147 = .ok (.invokevirtual 491, 3) := by decide +kernel
theorem dX12_again_150 : decode cX12_again 150 = .ok (.pop, 1) := by decide +kernel
theorem dX12_again_151 : decode cX12_again 151 = .ok (.iinc 4 1, 3) := by decide +kernel
theorem dX12_again_154 : decode cX12_again 154 = .ok (.goto (-122), 3) := by decide +kernel

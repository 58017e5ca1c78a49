theorem dL_still_369 : decode cL_still 369 = .ok (.iload_n 3, 1) := by decide +kernel
theorem dL_still_370 : decode cL_still 370 = .ok (.aload 10, 2) := by decide +kernel
theorem dL_still_372 : decode cL_still 372 = .ok (.getfield 117, 3) := by decide +kernel
theorem dL_still_375 : decode cL_still 375 = .ok (.invokevirtual 7, 3) := by decide +kernel
theorem dL_still_378 : decode cL_still 378 = .ok (.iadd, 1) := by decide +kernel
theorem dL_still_379 : decode cL_still 379 = .ok (.istore_n 3, 1) := by decide +kernel
theorem dL_still_380 : decode cL_still 380 = .ok (.iload 8, 2) := by decide +kernel
theorem dL_still_382 : decode cL_still 382 = .ok (.ifCond .eq 26, 3) := by decide +kernel
theorem dL_still_385 : decode cL_still 385 = .ok (.aload_n 0, 1) := by decide +kernel
theorem dL_still_386 : decode cL_still 386 = .ok (.iload 9, 2) := by decide +kernel
theorem dL_still_388 : decode cL_still 388 = .ok (.bipush 6, 2) := by decide +kernel
theorem dL_still_390 : decode cL_still 390 = .ok (.invokevirtual 203, 3) := by decide +kernel
theorem dL_still_393 : decode cL_still 393 = .ok (.aload 10, 2) := by decide +kernel
theorem dL_still_395 : decode cL_still 395 = .ok (.getfield 117, 3) := by decide +kernel
theorem dL_still_398 : decode cL_still 398 = .ok (.invokevirtual 7, 3) := by decide +kernel
theorem dL_still_401 : decode cL_still 401 = .ok (.if_icmp .ne 7, 3) := by decide +kernel
theorem dL_still_404 : decode cL_still 404 = .ok (.iconst 1, 1) := by decide +kernel
theorem dL_still_405 : decode cL_still 405 = .ok (.goto 4, 3) := by decide +kernel
theorem dL_still_408 : decode cL_still 408 = .ok (.iconst 0, 1) := by decide +kernel
theorem dL_still_409 : decode cL_still 409 = .ok (.istore 8, 2) := by decide +kernel
theorem dL_still_411 : decode cL_still 411 = .ok (.iinc 9 1, 3) := by decide +kernel
theorem dL_still_414 : decode cL_still 414 = .ok (.goto (-89), 3) := by decide +kernel
theorem dL_still_417 : decode cL_still 417 = .ok (.bipush 8, 2) := by decide +kernel
theorem dL_still_419 : decode cL_still 419 = .ok (.newarray .int, 2) := by decide +kernel
theorem dL_still_421 : decode cL_still 421 = .ok (.dup, 1) := by decide +kernel
theorem dL_still_422 : decode cL_still 422 = .ok (.iconst 0, 1) := by decide +kernel
theorem dL_still_423 : decode cL_still 423 = .ok (.aload_n 1, 1) := by decide +kernel
theorem dL_still_424 : decode cL_still 424 = .ok (.getfield 60, 3) := by decide +kernel
theorem dL_still_427 : decode cL_still 427 = .ok (.iastore, 1) := by decide +kernel
theorem dL_still_428 : decode cL_still 428 = .ok (.dup, 1) := by decide +kernel
theorem dL_still_429 : decode cL_still 429 = .ok (.iconst 1, 1) := by decide +kernel
theorem dL_still_430 : decode cL_still 430 = .ok (.aload_n 1, 1) := by decide +kernel
theorem dL_still_431 : decode cL_still 431 = .ok (.getfield 66, 3) := by decide +kernel
theorem dL_still_434 : decode cL_still 434 = .ok (.iastore, 1) := by decide +kernel
theorem dL_still_435 : decode cL_still 435 = .ok (.dup, 1) := by decide +kernel
theorem dL_still_436 : decode cL_still 436 = .ok (.iconst 2, 1) := by decide +kernel
theorem dL_still_437 : decode cL_still 437 = .ok (.aload_n 1, 1) := by decide +kernel
theorem dL_still_438 : decode cL_still 438 = .ok (.invokevirtual 186, 3) := by decide +kernel
theorem dL_still_441 : decode cL_still 441 = .ok (.iastore, 1) := by decide +kernel
theorem dL_still_442 : decode cL_still 442 = .ok (.dup, 1) := by decide +kernel
theorem dL_still_443 : decode cL_still 443 = .ok (.iconst 3, 1) := by decide +kernel
theorem dL_still_444 : decode cL_still 444 = .ok (.iload_n 2, 1) := by decide +kernel
theorem dL_still_445 : decode cL_still 445 = .ok (.iastore, 1) := by decide +kernel
theorem dL_still_446 : decode cL_still 446 = .ok (.dup, 1) := by decide +kernel
theorem dL_still_447 : decode cL_still 447 = .ok (.iconst 4, 1) := by decide +kernel
theorem dL_still_448 : decode cL_still 448 = .ok (.aload_n 1, 1) := by decide +kernel
theorem dL_still_449 : decode cL_still 449 = .ok (.getfield 109, 3) := by decide +kernel
theorem dL_still_452 : decode cL_still 452 = .ok (.invokeinterface 160 1, 5) := by decide +kernel
theorem dL_still_457 : decode cL_still 457 = .ok (.iastore, 1) := by decide +kernel
theorem dL_still_458 : decode cL_still 458 = .ok (.dup, 1) := by decide +kernel
theorem dL_still_459 : decode cL_still 459 = .ok (.iconst 5, 1) := by decide +kernel
theorem dL_still_460 : decode cL_still 460 = .ok (.aload_n 1, 1) := by decide +kernel
theorem dL_still_461 : decode cL_still 461 = .ok (.getfield 140, 3) := by decide +kernel
theorem dL_still_464 : decode cL_still 464 = .ok (.iastore, 1) := by decide +kernel
theorem dL_still_465 : decode cL_still 465 = .ok (.dup, 1) := by decide +kernel
theorem dL_still_466 : decode cL_still 466 = .ok (.bipush 6, 2) := by decide +kernel
theorem dL_still_468 : decode cL_still 468 = .ok (.aload_n 1, 1) := by decide +kernel
theorem dL_still_469 : decode cL_still 469 = .ok (.getfield 206, 3) := by decide +kernel
theorem dL_still_472 : decode cL_still 472 = .ok (.iastore, 1) := by decide +kernel
theorem dL_still_473 : decode cL_still 473 = .ok (.dup, 1) := by decide +kernel
theorem dL_still_474 : decode cL_still 474 = .ok (.bipush 7, 2) := by decide +kernel
theorem dL_still_476 : decode cL_still 476 = .ok (.iload_n 3, 1) := by decide +kernel
theorem dL_still_477 : decode cL_still 477 = .ok (.iastore, 1) := by decide +kernel
theorem dL_still_478 : decode cL_still 478 = .ok (.astore 9, 2) := by decide +kernel
theorem dL_still_480 : decode cL_still 480 = .ok (.iconst 0, 1) := by decide +kernel
theorem dL_still_481 : decode cL_still 481 = .ok (.istore 10, 2) := by decide +kernel
theorem dL_still_483 : decode cL_still 483 = .ok (.iload 10, 2) := by decide +kernel
theorem dL_still_485 : decode cL_still 485 = .ok (.bipush 8, 2) := by decide +kernel
theorem dL_still_487 : decode cL_still 487 = .ok (.if_icmp .ge 25, 3) := by decide +kernel
theorem dL_still_490 : decode cL_still 490 = .ok (.aload_n 0, 1) := by decide +kernel
theorem dL_still_491 : decode cL_still 491 = .ok (.iload 10, 2) := by decide +kernel
theorem dL_still_493 : decode cL_still 493 = .ok (.invokevirtual 209, 3) := by decide +kernel
theorem dL_still_496 : decode cL_still 496 = .ok (.aload 9, 2) := by decide +kernel
theorem dL_still_498 : decode cL_still 498 = .ok (.iload 10, 2) := by decide +kernel
theorem dL_still_500 : decode cL_still 500 = .ok (.iaload, 1) := by decide +kernel
theorem dL_still_501 : decode cL_still 501 = .ok (.if_icmp .eq 5, 3) := by decide +kernel
theorem dL_still_504 : decode cL_still 504 = .ok (.iconst 0, 1) := by decide +kernel
theorem dL_still_505 : decode cL_still 505 = .ok (.ireturn, 1) := by decide +kernel
theorem dL_still_506 : decode cL_still 506 = .ok (.iinc 10 1, 3) := by decide +kernel
theorem dL_still_509 : decode cL_still 509 = .ok (.goto (-26), 3) := by decide +kernel
theorem dL_still_512 : decode cL_still 512 = .ok (.iconst (-1), 1) := by decide +kernel
theorem dL_still_513 : decode cL_still 513 = .ok (.istore 10, 2) := by decide +kernel
theorem dL_still_515 : decode cL_still 515 = .ok (.iconst (-1), 1) := by decide +kernel
theorem dL_still_516 : decode cL_still 516 = .ok (.istore 11, 2) := by decide +kernel
theorem dL_still_518 : decode cL_still 518 = .ok (.iconst 0, 1) := by decide +kernel
theorem dL_still_519 : decode cL_still 519 = .ok (.istore 12, 2) := by decide +kernel
theorem dL_still_521 : decode cL_still 521 = .ok (.aload_n 1, 1) := by decide +kernel
theorem dL_still_522 : decode cL_still 522 = .ok (.invokevirtual 186, 3) := by decide +kernel
theorem dL_still_525 : decode cL_still 525 = .ok (.iconst 1, 1) := by decide +kernel
theorem dL_still_526 : decode cL_still 526 = .ok (.isub, 1) := by decide +kernel
theorem dL_still_527 : decode cL_still 527 = .ok (.istore 13, 2) := by decide +kernel
theorem dL_still_529 : decode cL_still 529 = .ok (.iload 13, 2) := by decide +kernel
theorem dL_still_531 : decode cL_still 531 = .ok (.ifCond .lt 46, 3) := by decide +kernel
theorem dL_still_534 : decode cL_still 534 = .ok (.aload_n 1, 1) := by decide +kernel
theorem dL_still_535 : decode cL_still 535 = .ok (.iload 13, 2) := by decide +kernel
theorem dL_still_537 : decode cL_still 537 = .ok (.invokevirtual 212, 3) := by decide +kernel
theorem dL_still_540 : decode cL_still 540 = .ok (.ifCond .ne 6, 3) := by decide +kernel
theorem dL_still_543 : decode cL_still 543 = .ok (.goto 28, 3) := by decide +kernel
theorem dL_still_546 : decode cL_still 546 = .ok (.iinc 12 1, 3) := by decide +kernel
theorem dL_still_549 : decode cL_still 549 = .ok (.iload 13, 2) := by decide +kernel

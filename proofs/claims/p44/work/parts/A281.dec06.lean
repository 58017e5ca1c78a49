theorem dL_acts_383 : decode cL_acts 383 = .ok (.aload_n 1, 1) := by decide +kernel
theorem dL_acts_384 : decode cL_acts 384 = .ok (.invokevirtual 186, 3) := by decide +kernel
theorem dL_acts_387 : decode cL_acts 387 = .ok (.invokevirtual 175, 3) := by decide +kernel
theorem dL_acts_390 : decode cL_acts 390 = .ok (.ifCond .ge 7, 3) := by decide +kernel
theorem dL_acts_393 : decode cL_acts 393 = .ok (.iconst 1, 1) := by decide +kernel
theorem dL_acts_394 : decode cL_acts 394 = .ok (.goto 4, 3) := by decide +kernel
theorem dL_acts_397 : decode cL_acts 397 = .ok (.iconst 0, 1) := by decide +kernel
theorem dL_acts_398 : decode cL_acts 398 = .ok (.iadd, 1) := by decide +kernel
theorem dL_acts_399 : decode cL_acts 399 = .ok (.istore 5, 2) := by decide +kernel
theorem dL_acts_401 : decode cL_acts 401 = .ok (.iinc 6 1, 3) := by decide +kernel
theorem dL_acts_404 : decode cL_acts 404 = .ok (.goto (-40), 3) := by decide +kernel
theorem dL_acts_407 : decode cL_acts 407 = .ok (.iload 4, 2) := by decide +kernel
theorem dL_acts_409 : decode cL_acts 409 = .ok (.ifCond .ne 7, 3) := by decide +kernel
theorem dL_acts_412 : decode cL_acts 412 = .ok (.iconst (-1), 1) := by decide +kernel
theorem dL_acts_413 : decode cL_acts 413 = .ok (.goto 20, 3) := by decide +kernel
theorem dL_acts_416 : decode cL_acts 416 = .ok (.aload_n 1, 1) := by decide +kernel
theorem dL_acts_417 : decode cL_acts 417 = .ok (.getfield 145, 3) := by decide +kernel
theorem dL_acts_420 : decode cL_acts 420 = .ok (.iconst 0, 1) := by decide +kernel
theorem dL_acts_421 : decode cL_acts 421 = .ok (.iaload, 1) := by decide +kernel
theorem dL_acts_422 : decode cL_acts 422 = .ok (.iload 5, 2) := by decide +kernel
theorem dL_acts_424 : decode cL_acts 424 = .ok (.if_icmp .ge 8, 3) := by decide +kernel
theorem dL_acts_427 : decode cL_acts 427 = .ok (.bipush (-2), 2) := by decide +kernel
theorem dL_acts_429 : decode cL_acts 429 = .ok (.goto 4, 3) := by decide +kernel
theorem dL_acts_432 : decode cL_acts 432 = .ok (.iconst 0, 1) := by decide +kernel
theorem dL_acts_433 : decode cL_acts 433 = .ok (.istore 6, 2) := by decide +kernel
theorem dL_acts_435 : decode cL_acts 435 = .ok (.iload 6, 2) := by decide +kernel
theorem dL_acts_437 : decode cL_acts 437 = .ok (.ifCond .ge 14, 3) := by decide +kernel
theorem dL_acts_440 : decode cL_acts 440 = .ok (.aload_n 0, 1) := by decide +kernel
theorem dL_acts_441 : decode cL_acts 441 = .ok (.invokevirtual 345, 3) := by decide +kernel
theorem dL_acts_444 : decode cL_acts 444 = .ok (.iload 6, 2) := by decide +kernel
theorem dL_acts_446 : decode cL_acts 446 = .ok (.aload_n 3, 1) := by decide +kernel
theorem dL_acts_447 : decode cL_acts 447 = .ok (.invokestatic 329, 3) := by decide +kernel
theorem dL_acts_450 : decode cL_acts 450 = .ok (.ireturn, 1) := by decide +kernel
theorem dL_acts_451 : decode cL_acts 451 = .ok (.aload_n 1, 1) := by decide +kernel
theorem dL_acts_452 : decode cL_acts 452 = .ok (.invokevirtual 186, 3) := by decide +kernel
theorem dL_acts_455 : decode cL_acts 455 = .ok (.istore 7, 2) := by decide +kernel
theorem dL_acts_457 : decode cL_acts 457 = .ok (.iconst 0, 1) := by decide +kernel
theorem dL_acts_458 : decode cL_acts 458 = .ok (.istore 8, 2) := by decide +kernel
theorem dL_acts_460 : decode cL_acts 460 = .ok (.iload 8, 2) := by decide +kernel
theorem dL_acts_462 : decode cL_acts 462 = .ok (.aload_n 1, 1) := by decide +kernel
theorem dL_acts_463 : decode cL_acts 463 = .ok (.getfield 60, 3) := by decide +kernel
theorem dL_acts_466 : decode cL_acts 466 = .ok (.if_icmp .ge 38, 3) := by decide +kernel
theorem dL_acts_469 : decode cL_acts 469 = .ok (.aload_n 1, 1) := by decide +kernel
theorem dL_acts_470 : decode cL_acts 470 = .ok (.iload 8, 2) := by decide +kernel
theorem dL_acts_472 : decode cL_acts 472 = .ok (.iload 7, 2) := by decide +kernel
theorem dL_acts_474 : decode cL_acts 474 = .ok (.invokevirtual 175, 3) := by decide +kernel
theorem dL_acts_477 : decode cL_acts 477 = .ok (.ifCond .ge 21, 3) := by decide +kernel
theorem dL_acts_480 : decode cL_acts 480 = .ok (.aload_n 1, 1) := by decide +kernel
theorem dL_acts_481 : decode cL_acts 481 = .ok (.getfield 83, 3) := by decide +kernel
theorem dL_acts_484 : decode cL_acts 484 = .ok (.iload 7, 2) := by decide +kernel
theorem dL_acts_486 : decode cL_acts 486 = .ok (.invokeinterface 195 2, 5) := by decide +kernel
theorem dL_acts_491 : decode cL_acts 491 = .ok (.checkcast 325, 3) := by decide +kernel
theorem dL_acts_494 : decode cL_acts 494 = .ok (.iload 8, 2) := by decide +kernel
theorem dL_acts_496 : decode cL_acts 496 = .ok (.iconst 0, 1) := by decide +kernel
theorem dL_acts_497 : decode cL_acts 497 = .ok (.iastore, 1) := by decide +kernel
theorem dL_acts_498 : decode cL_acts 498 = .ok (.iinc 8 1, 3) := by decide +kernel
theorem dL_acts_501 : decode cL_acts 501 = .ok (.goto (-41), 3) := by decide +kernel
theorem dL_acts_504 : decode cL_acts 504 = .ok (.aload_n 1, 1) := by decide +kernel
theorem dL_acts_505 : decode cL_acts 505 = .ok (.getfield 145, 3) := by decide +kernel
theorem dL_acts_508 : decode cL_acts 508 = .ok (.iconst 0, 1) := by decide +kernel
theorem dL_acts_509 : decode cL_acts 509 = .ok (.dup2, 1) := by decide +kernel
theorem dL_acts_510 : decode cL_acts 510 = .ok (.iaload, 1) := by decide +kernel
theorem dL_acts_511 : decode cL_acts 511 = .ok (.iload 5, 2) := by decide +kernel
theorem dL_acts_513 : decode cL_acts 513 = .ok (.isub, 1) := by decide +kernel
theorem dL_acts_514 : decode cL_acts 514 = .ok (.iastore, 1) := by decide +kernel
theorem dL_acts_515 : decode cL_acts 515 = .ok (.aload_n 3, 1) := by decide +kernel
theorem dL_acts_516 : decode cL_acts 516 = .ok (.bipush 8, 2) := by decide +kernel
theorem dL_acts_518 : decode cL_acts 518 = .ok (.dup2, 1) := by decide +kernel
theorem dL_acts_519 : decode cL_acts 519 = .ok (.iaload, 1) := by decide +kernel
theorem dL_acts_520 : decode cL_acts 520 = .ok (.aload_n 1, 1) := by decide +kernel
theorem dL_acts_521 : decode cL_acts 521 = .ok (.iload 7, 2) := by decide +kernel
theorem dL_acts_523 : decode cL_acts 523 = .ok (.invokestatic 319, 3) := by decide +kernel
theorem dL_acts_526 : decode cL_acts 526 = .ok (.iadd, 1) := by decide +kernel
theorem dL_acts_527 : decode cL_acts 527 = .ok (.iastore, 1) := by decide +kernel
theorem dL_acts_528 : decode cL_acts 528 = .ok (.aload_n 1, 1) := by decide +kernel
theorem dL_acts_529 : decode cL_acts 529 = .ok (.invokevirtual 322, 3) := by decide +kernel
theorem dL_acts_532 : decode cL_acts 532 = .ok (.aload_n 0, 1) := by decide +kernel
theorem dL_acts_533 : decode cL_acts 533 = .ok (.invokevirtual 345, 3) := by decide +kernel
theorem dL_acts_536 : decode cL_acts 536 = .ok (.aload_n 1, 1) := by decide +kernel
theorem dL_acts_537 : decode cL_acts 537 = .ok (.iload 7, 2) := by decide +kernel

theorem dL_acts_539 : decode cL_acts 539 = .ok (.invokevirtual 212, 3) := by decide +kernel
theorem dL_acts_542 : decode cL_acts 542 = .ok (.aload_n 3, 1) := by decide +kernel
theorem dL_acts_543 : decode cL_acts 543 = .ok (.invokestatic 329, 3) := by decide +kernel
theorem dL_acts_546 : decode cL_acts 546 = .ok (.ireturn, 1) := by decide +kernel
theorem dL_acts_547 : decode cL_acts 547 = .ok (.iconst 1, 1) := by decide +kernel
theorem dL_acts_548 : decode cL_acts 548 = .ok (.aload_n 2, 1) := by decide +kernel
theorem dL_acts_549 : decode cL_acts 549 = .ok (.iconst 5, 1) := by decide +kernel
theorem dL_acts_550 : decode cL_acts 550 = .ok (.invokestatic 45, 3) := by decide +kernel
theorem dL_acts_553 : decode cL_acts 553 = .ok (.iadd, 1) := by decide +kernel
theorem dL_acts_554 : decode cL_acts 554 = .ok (.istore 5, 2) := by decide +kernel
theorem dL_acts_556 : decode cL_acts 556 = .ok (.aload_n 2, 1) := by decide +kernel
theorem dL_acts_557 : decode cL_acts 557 = .ok (.iconst 3, 1) := by decide +kernel
theorem dL_acts_558 : decode cL_acts 558 = .ok (.invokestatic 45, 3) := by decide +kernel
theorem dL_acts_561 : decode cL_acts 561 = .ok (.ifCond .ne 7, 3) := by decide +kernel
theorem dL_acts_564 : decode cL_acts 564 = .ok (.iconst 1, 1) := by decide +kernel
theorem dL_acts_565 : decode cL_acts 565 = .ok (.goto 4, 3) := by decide +kernel
theorem dL_acts_568 : decode cL_acts 568 = .ok (.iconst 0, 1) := by decide +kernel
theorem dL_acts_569 : decode cL_acts 569 = .ok (.istore 6, 2) := by decide +kernel
theorem dL_acts_571 : decode cL_acts 571 = .ok (.aload_n 1, 1) := by decide +kernel
theorem dL_acts_572 : decode cL_acts 572 = .ok (.invokevirtual 186, 3) := by decide +kernel
theorem dL_acts_575 : decode cL_acts 575 = .ok (.iload 5, 2) := by decide +kernel
theorem dL_acts_577 : decode cL_acts 577 = .ok (.iadd, 1) := by decide +kernel
theorem dL_acts_578 : decode cL_acts 578 = .ok (.aload_n 1, 1) := by decide +kernel
theorem dL_acts_579 : decode cL_acts 579 = .ok (.getfield 66, 3) := by decide +kernel
theorem dL_acts_582 : decode cL_acts 582 = .ok (.if_icmp .le 8, 3) := by decide +kernel
theorem dL_acts_585 : decode cL_acts 585 = .ok (.bipush (-3), 2) := by decide +kernel
theorem dL_acts_587 : decode cL_acts 587 = .ok (.goto 20, 3) := by decide +kernel
theorem dL_acts_590 : decode cL_acts 590 = .ok (.aload_n 1, 1) := by decide +kernel
theorem dL_acts_591 : decode cL_acts 591 = .ok (.iload 5, 2) := by decide +kernel
theorem dL_acts_593 : decode cL_acts 593 = .ok (.iload 6, 2) := by decide +kernel
theorem dL_acts_595 : decode cL_acts 595 = .ok (.invokevirtual 264, 3) := by decide +kernel
theorem dL_acts_598 : decode cL_acts 598 = .ok (.ifCond .eq 7, 3) := by decide +kernel
theorem dL_acts_601 : decode cL_acts 601 = .ok (.iconst 0, 1) := by decide +kernel
theorem dL_acts_602 : decode cL_acts 602 = .ok (.goto 5, 3) := by decide +kernel
theorem dL_acts_605 : decode cL_acts 605 = .ok (.bipush (-2), 2) := by decide +kernel
theorem dL_acts_607 : decode cL_acts 607 = .ok (.istore 7, 2) := by decide +kernel
theorem dL_acts_609 : decode cL_acts 609 = .ok (.iconst 0, 1) := by decide +kernel
theorem dL_acts_610 : decode cL_acts 610 = .ok (.istore 8, 2) := by decide +kernel
theorem dL_acts_612 : decode cL_acts 612 = .ok (.iload 8, 2) := by decide +kernel
theorem dL_acts_614 : decode cL_acts 614 = .ok (.iload 5, 2) := by decide +kernel
theorem dL_acts_616 : decode cL_acts 616 = .ok (.if_icmp .ge 26, 3) := by decide +kernel
theorem dL_acts_619 : decode cL_acts 619 = .ok (.iload 7, 2) := by decide +kernel
theorem dL_acts_621 : decode cL_acts 621 = .ok (.ifCond .lt 21, 3) := by decide +kernel
theorem dL_acts_624 : decode cL_acts 624 = .ok (.iload 7, 2) := by decide +kernel
theorem dL_acts_626 : decode cL_acts 626 = .ok (.aload_n 1, 1) := by decide +kernel
theorem dL_acts_627 : decode cL_acts 627 = .ok (.iload 6, 2) := by decide +kernel
theorem dL_acts_629 : decode cL_acts 629 = .ok (.aload_n 3, 1) := by decide +kernel
theorem dL_acts_630 : decode cL_acts 630 = .ok (.invokestatic 348, 3) := by decide +kernel
theorem dL_acts_633 : decode cL_acts 633 = .ok (.iadd, 1) := by decide +kernel
theorem dL_acts_634 : decode cL_acts 634 = .ok (.istore 7, 2) := by decide +kernel
theorem dL_acts_636 : decode cL_acts 636 = .ok (.iinc 8 1, 3) := by decide +kernel
theorem dL_acts_639 : decode cL_acts 639 = .ok (.goto (-27), 3) := by decide +kernel
theorem dL_acts_642 : decode cL_acts 642 = .ok (.aload_n 2, 1) := by decide +kernel
theorem dL_acts_643 : decode cL_acts 643 = .ok (.iconst 3, 1) := by decide +kernel
theorem dL_acts_644 : decode cL_acts 644 = .ok (.invokestatic 45, 3) := by decide +kernel
theorem dL_acts_647 : decode cL_acts 647 = .ok (.ifCond .le 18, 3) := by decide +kernel
theorem dL_acts_650 : decode cL_acts 650 = .ok (.aload_n 0, 1) := by decide +kernel
theorem dL_acts_651 : decode cL_acts 651 = .ok (.iload 5, 2) := by decide +kernel
theorem dL_acts_653 : decode cL_acts 653 = .ok (.iload 6, 2) := by decide +kernel
theorem dL_acts_655 : decode cL_acts 655 = .ok (.invokevirtual 352, 3) := by decide +kernel
theorem dL_acts_658 : decode cL_acts 658 = .ok (.iload 7, 2) := by decide +kernel
theorem dL_acts_660 : decode cL_acts 660 = .ok (.aload_n 3, 1) := by decide +kernel
theorem dL_acts_661 : decode cL_acts 661 = .ok (.invokestatic 329, 3) := by decide +kernel
theorem dL_acts_664 : decode cL_acts 664 = .ok (.ireturn, 1) := by decide +kernel
theorem dL_acts_665 : decode cL_acts 665 = .ok (.aload_n 3, 1) := by decide +kernel
theorem dL_acts_666 : decode cL_acts 666 = .ok (.iload 7, 2) := by decide +kernel
theorem dL_acts_668 : decode cL_acts 668 = .ok (.ifCond .ge 9, 3) := by decide +kernel
theorem dL_acts_671 : decode cL_acts 671 = .ok (.iload 7, 2) := by decide +kernel
theorem dL_acts_673 : decode cL_acts 673 = .ok (.ineg, 1) := by decide +kernel
theorem dL_acts_674 : decode cL_acts 674 = .ok (.goto 4, 3) := by decide +kernel
theorem dL_acts_677 : decode cL_acts 677 = .ok (.iconst 0, 1) := by decide +kernel
theorem dL_acts_678 : decode cL_acts 678 = .ok (.dup2, 1) := by decide +kernel
theorem dL_acts_679 : decode cL_acts 679 = .ok (.iaload, 1) := by decide +kernel
theorem dL_acts_680 : decode cL_acts 680 = .ok (.iconst 1, 1) := by decide +kernel
theorem dL_acts_681 : decode cL_acts 681 = .ok (.iadd, 1) := by decide +kernel
theorem dL_acts_682 : decode cL_acts 682 = .ok (.iastore, 1) := by decide +kernel
theorem dL_acts_683 : decode cL_acts 683 = .ok (.aload_n 0, 1) := by decide +kernel
theorem dL_acts_684 : decode cL_acts 684 = .ok (.new 40, 3) := by decide +kernel
theorem dL_acts_687 : decode cL_acts 687 = .ok (.dup, 1) := by decide +kernel
theorem dL_acts_688 : decode cL_acts 688 = .ok (.invokespecial 42, 3) := by decide +kernel

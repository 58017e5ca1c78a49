theorem dL_still_551 : decode cL_still 551 = .ok (.istore 10, 2) := by decide +kernel
theorem dL_still_553 : decode cL_still 553 = .ok (.aload_n 1, 1) := by decide +kernel
theorem dL_still_554 : decode cL_still 554 = .ok (.iload 13, 2) := by decide +kernel
theorem dL_still_556 : decode cL_still 556 = .ok (.invokevirtual 215, 3) := by decide +kernel
theorem dL_still_559 : decode cL_still 559 = .ok (.ifCond .eq 8, 3) := by decide +kernel
theorem dL_still_562 : decode cL_still 562 = .ok (.iload 13, 2) := by decide +kernel
theorem dL_still_564 : decode cL_still 564 = .ok (.goto 5, 3) := by decide +kernel
theorem dL_still_567 : decode cL_still 567 = .ok (.iload 11, 2) := by decide +kernel
theorem dL_still_569 : decode cL_still 569 = .ok (.istore 11, 2) := by decide +kernel
theorem dL_still_571 : decode cL_still 571 = .ok (.iinc 13 (-1), 3) := by decide +kernel
theorem dL_still_574 : decode cL_still 574 = .ok (.goto (-45), 3) := by decide +kernel
theorem dL_still_577 : decode cL_still 577 = .ok (.bipush 6, 2) := by decide +kernel
theorem dL_still_579 : decode cL_still 579 = .ok (.newarray .int, 2) := by decide +kernel
theorem dL_still_581 : decode cL_still 581 = .ok (.dup, 1) := by decide +kernel
theorem dL_still_582 : decode cL_still 582 = .ok (.iconst 0, 1) := by decide +kernel
theorem dL_still_583 : decode cL_still 583 = .ok (.aload_n 1, 1) := by decide +kernel
theorem dL_still_584 : decode cL_still 584 = .ok (.iconst 0, 1) := by decide +kernel
theorem dL_still_585 : decode cL_still 585 = .ok (.invokevirtual 219, 3) := by decide +kernel
theorem dL_still_588 : decode cL_still 588 = .ok (.iastore, 1) := by decide +kernel
theorem dL_still_589 : decode cL_still 589 = .ok (.dup, 1) := by decide +kernel
theorem dL_still_590 : decode cL_still 590 = .ok (.iconst 1, 1) := by decide +kernel
theorem dL_still_591 : decode cL_still 591 = .ok (.aload_n 1, 1) := by decide +kernel
theorem dL_still_592 : decode cL_still 592 = .ok (.iconst 1, 1) := by decide +kernel
theorem dL_still_593 : decode cL_still 593 = .ok (.invokevirtual 219, 3) := by decide +kernel
theorem dL_still_596 : decode cL_still 596 = .ok (.iastore, 1) := by decide +kernel
theorem dL_still_597 : decode cL_still 597 = .ok (.dup, 1) := by decide +kernel
theorem dL_still_598 : decode cL_still 598 = .ok (.iconst 2, 1) := by decide +kernel
theorem dL_still_599 : decode cL_still 599 = .ok (.iload 12, 2) := by decide +kernel
theorem dL_still_601 : decode cL_still 601 = .ok (.iastore, 1) := by decide +kernel
theorem dL_still_602 : decode cL_still 602 = .ok (.dup, 1) := by decide +kernel
theorem dL_still_603 : decode cL_still 603 = .ok (.iconst 3, 1) := by decide +kernel
theorem dL_still_604 : decode cL_still 604 = .ok (.iload 11, 2) := by decide +kernel
theorem dL_still_606 : decode cL_still 606 = .ok (.iastore, 1) := by decide +kernel
theorem dL_still_607 : decode cL_still 607 = .ok (.dup, 1) := by decide +kernel
theorem dL_still_608 : decode cL_still 608 = .ok (.iconst 4, 1) := by decide +kernel
theorem dL_still_609 : decode cL_still 609 = .ok (.iload 10, 2) := by decide +kernel
theorem dL_still_611 : decode cL_still 611 = .ok (.ifCond .ge 7, 3) := by decide +kernel
theorem dL_still_614 : decode cL_still 614 = .ok (.iconst 0, 1) := by decide +kernel
theorem dL_still_615 : decode cL_still 615 = .ok (.goto 10, 3) := by decide +kernel
theorem dL_still_618 : decode cL_still 618 = .ok (.aload_n 1, 1) := by decide +kernel
theorem dL_still_619 : decode cL_still 619 = .ok (.invokevirtual 186, 3) := by decide +kernel
theorem dL_still_622 : decode cL_still 622 = .ok (.iload 10, 2) := by decide +kernel
theorem dL_still_624 : decode cL_still 624 = .ok (.isub, 1) := by decide +kernel
theorem dL_still_625 : decode cL_still 625 = .ok (.iastore, 1) := by decide +kernel
theorem dL_still_626 : decode cL_still 626 = .ok (.dup, 1) := by decide +kernel
theorem dL_still_627 : decode cL_still 627 = .ok (.iconst 5, 1) := by decide +kernel
theorem dL_still_628 : decode cL_still 628 = .ok (.iload 11, 2) := by decide +kernel
theorem dL_still_630 : decode cL_still 630 = .ok (.ifCond .ge 7, 3) := by decide +kernel
theorem dL_still_633 : decode cL_still 633 = .ok (.iconst 0, 1) := by decide +kernel
theorem dL_still_634 : decode cL_still 634 = .ok (.goto 10, 3) := by decide +kernel
theorem dL_still_637 : decode cL_still 637 = .ok (.aload_n 1, 1) := by decide +kernel
theorem dL_still_638 : decode cL_still 638 = .ok (.invokevirtual 186, 3) := by decide +kernel
theorem dL_still_641 : decode cL_still 641 = .ok (.iload 11, 2) := by decide +kernel
theorem dL_still_643 : decode cL_still 643 = .ok (.isub, 1) := by decide +kernel
theorem dL_still_644 : decode cL_still 644 = .ok (.iastore, 1) := by decide +kernel
theorem dL_still_645 : decode cL_still 645 = .ok (.astore 13, 2) := by decide +kernel
theorem dL_still_647 : decode cL_still 647 = .ok (.iconst 0, 1) := by decide +kernel
theorem dL_still_648 : decode cL_still 648 = .ok (.istore 14, 2) := by decide +kernel
theorem dL_still_650 : decode cL_still 650 = .ok (.iload 14, 2) := by decide +kernel
theorem dL_still_652 : decode cL_still 652 = .ok (.bipush 6, 2) := by decide +kernel
theorem dL_still_654 : decode cL_still 654 = .ok (.if_icmp .ge 25, 3) := by decide +kernel
theorem dL_still_657 : decode cL_still 657 = .ok (.aload_n 0, 1) := by decide +kernel
theorem dL_still_658 : decode cL_still 658 = .ok (.iload 14, 2) := by decide +kernel
theorem dL_still_660 : decode cL_still 660 = .ok (.invokevirtual 223, 3) := by decide +kernel
theorem dL_still_663 : decode cL_still 663 = .ok (.aload 13, 2) := by decide +kernel
theorem dL_still_665 : decode cL_still 665 = .ok (.iload 14, 2) := by decide +kernel
theorem dL_still_667 : decode cL_still 667 = .ok (.iaload, 1) := by decide +kernel
theorem dL_still_668 : decode cL_still 668 = .ok (.if_icmp .eq 5, 3) := by decide +kernel
theorem dL_still_671 : decode cL_still 671 = .ok (.iconst 0, 1) := by decide +kernel
theorem dL_still_672 : decode cL_still 672 = .ok (.ireturn, 1) := by decide +kernel
theorem dL_still_673 : decode cL_still 673 = .ok (.iinc 14 1, 3) := by decide +kernel
theorem dL_still_676 : decode cL_still 676 = .ok (.goto (-26), 3) := by decide +kernel
theorem dL_still_679 : decode cL_still 679 = .ok (.aload_n 0, 1) := by decide +kernel
theorem dL_still_680 : decode cL_still 680 = .ok (.invokevirtual 226, 3) := by decide +kernel
theorem dL_still_683 : decode cL_still 683 = .ok (.iload 8, 2) := by decide +kernel
theorem dL_still_685 : decode cL_still 685 = .ok (.if_icmp .ne 7, 3) := by decide +kernel
theorem dL_still_688 : decode cL_still 688 = .ok (.iconst 1, 1) := by decide +kernel
theorem dL_still_689 : decode cL_still 689 = .ok (.goto 4, 3) := by decide +kernel
theorem dL_still_692 : decode cL_still 692 = .ok (.iconst 0, 1) := by decide +kernel
theorem dL_still_693 : decode cL_still 693 = .ok (.ireturn, 1) := by decide +kernel

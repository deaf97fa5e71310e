theorem d_law_530 : decode code 530 = .ok (.iadd, 1) := by decide +kernel
theorem d_law_531 : decode code 531 = .ok (.iaload, 1) := by decide +kernel
theorem d_law_532 : decode code 532 = .ok (.aload_n 0, 1) := by decide +kernel
theorem d_law_533 : decode code 533 = .ok (.iload 4, 2) := by decide +kernel
theorem d_law_535 : decode code 535 = .ok (.iconst 2, 1) := by decide +kernel
theorem d_law_536 : decode code 536 = .ok (.iadd, 1) := by decide +kernel
theorem d_law_537 : decode code 537 = .ok (.iaload, 1) := by decide +kernel
theorem d_law_538 : decode code 538 = .ok (.invokevirtual 103, 3) := by decide +kernel
theorem d_law_541 : decode code 541 = .ok (.istore 6, 2) := by decide +kernel
theorem d_law_543 : decode code 543 = .ok (.aload_n 2, 1) := by decide +kernel
theorem d_law_544 : decode code 544 = .ok (.invokevirtual 83, 3) := by decide +kernel
theorem d_law_547 : decode code 547 = .ok (.iload 5, 2) := by decide +kernel
theorem d_law_549 : decode code 549 = .ok (.if_icmp .eq 5, 3) := by decide +kernel
theorem d_law_552 : decode code 552 = .ok (.iconst 0, 1) := by decide +kernel
theorem d_law_553 : decode code 553 = .ok (.ireturn, 1) := by decide +kernel
theorem d_law_554 : decode code 554 = .ok (.iload 5, 2) := by decide +kernel
theorem d_law_556 : decode code 556 = .ok (.ifCond .ne 15, 3) := by decide +kernel
theorem d_law_559 : decode code 559 = .ok (.aload_n 3, 1) := by decide +kernel
theorem d_law_560 : decode code 560 = .ok (.iconst 0, 1) := by decide +kernel
theorem d_law_561 : decode code 561 = .ok (.laload, 1) := by decide +kernel
theorem d_law_562 : decode code 562 = .ok (.iload 6, 2) := by decide +kernel
theorem d_law_564 : decode code 564 = .ok (.i2l, 1) := by decide +kernel
theorem d_law_565 : decode code 565 = .ok (.lcmp, 1) := by decide +kernel
theorem d_law_566 : decode code 566 = .ok (.ifCond .eq 5, 3) := by decide +kernel
theorem d_law_569 : decode code 569 = .ok (.iconst 0, 1) := by decide +kernel
theorem d_law_570 : decode code 570 = .ok (.ireturn, 1) := by decide +kernel
theorem d_law_571 : decode code 571 = .ok (.goto 698, 3) := by decide +kernel
theorem d_law_574 : decode code 574 = .ok (.aload_n 1, 1) := by decide +kernel
theorem d_law_575 : decode code 575 = .ok (.aload_n 0, 1) := by decide +kernel
theorem d_law_576 : decode code 576 = .ok (.iload 4, 2) := by decide +kernel
theorem d_law_578 : decode code 578 = .ok (.iconst 1, 1) := by decide +kernel
theorem d_law_579 : decode code 579 = .ok (.iadd, 1) := by decide +kernel
theorem d_law_580 : decode code 580 = .ok (.iaload, 1) := by decide +kernel
theorem d_law_581 : decode code 581 = .ok (.aload_n 3, 1) := by decide +kernel
theorem d_law_582 : decode code 582 = .ok (.invokestatic 104, 3) := by decide +kernel
theorem d_law_585 : decode code 585 = .ok (.istore 5, 2) := by decide +kernel
theorem d_law_587 : decode code 587 = .ok (.aload_n 2, 1) := by decide +kernel
theorem d_law_588 : decode code 588 = .ok (.aload_n 0, 1) := by decide +kernel
theorem d_law_589 : decode code 589 = .ok (.iload 4, 2) := by decide +kernel
theorem d_law_591 : decode code 591 = .ok (.iconst 1, 1) := by decide +kernel
theorem d_law_592 : decode code 592 = .ok (.iadd, 1) := by decide +kernel
theorem d_law_593 : decode code 593 = .ok (.iaload, 1) := by decide +kernel
theorem d_law_594 : decode code 594 = .ok (.invokevirtual 106, 3) := by decide +kernel
theorem d_law_597 : decode code 597 = .ok (.istore 6, 2) := by decide +kernel
theorem d_law_599 : decode code 599 = .ok (.aload_n 2, 1) := by decide +kernel
theorem d_law_600 : decode code 600 = .ok (.invokevirtual 83, 3) := by decide +kernel
theorem d_law_603 : decode code 603 = .ok (.iload 5, 2) := by decide +kernel
theorem d_law_605 : decode code 605 = .ok (.if_icmp .eq 5, 3) := by decide +kernel
theorem d_law_608 : decode code 608 = .ok (.iconst 0, 1) := by decide +kernel
theorem d_law_609 : decode code 609 = .ok (.ireturn, 1) := by decide +kernel
theorem d_law_610 : decode code 610 = .ok (.iload 5, 2) := by decide +kernel
theorem d_law_612 : decode code 612 = .ok (.ifCond .ne 15, 3) := by decide +kernel
theorem d_law_615 : decode code 615 = .ok (.aload_n 3, 1) := by decide +kernel
theorem d_law_616 : decode code 616 = .ok (.iconst 0, 1) := by decide +kernel
theorem d_law_617 : decode code 617 = .ok (.laload, 1) := by decide +kernel
theorem d_law_618 : decode code 618 = .ok (.iload 6, 2) := by decide +kernel
theorem d_law_620 : decode code 620 = .ok (.i2l, 1) := by decide +kernel
theorem d_law_621 : decode code 621 = .ok (.lcmp, 1) := by decide +kernel
theorem d_law_622 : decode code 622 = .ok (.ifCond .eq 5, 3) := by decide +kernel
theorem d_law_625 : decode code 625 = .ok (.iconst 0, 1) := by decide +kernel
theorem d_law_626 : decode code 626 = .ok (.ireturn, 1) := by decide +kernel
theorem d_law_627 : decode code 627 = .ok (.goto 642, 3) := by decide +kernel
theorem d_law_630 : decode code 630 = .ok (.aload_n 1, 1) := by decide +kernel
theorem d_law_631 : decode code 631 = .ok (.aload_n 0, 1) := by decide +kernel
theorem d_law_632 : decode code 632 = .ok (.iload 4, 2) := by decide +kernel
theorem d_law_634 : decode code 634 = .ok (.iconst 1, 1) := by decide +kernel
theorem d_law_635 : decode code 635 = .ok (.iadd, 1) := by decide +kernel
theorem d_law_636 : decode code 636 = .ok (.iaload, 1) := by decide +kernel
theorem d_law_637 : decode code 637 = .ok (.aload_n 0, 1) := by decide +kernel
theorem d_law_638 : decode code 638 = .ok (.iload 4, 2) := by decide +kernel
theorem d_law_640 : decode code 640 = .ok (.iconst 2, 1) := by decide +kernel
theorem d_law_641 : decode code 641 = .ok (.iadd, 1) := by decide +kernel
theorem d_law_642 : decode code 642 = .ok (.iaload, 1) := by decide +kernel
theorem d_law_643 : decode code 643 = .ok (.i2l, 1) := by decide +kernel
theorem d_law_644 : decode code 644 = .ok (.bipush 32, 2) := by decide +kernel
theorem d_law_646 : decode code 646 = .ok (.lshl, 1) := by decide +kernel
theorem d_law_647 : decode code 647 = .ok (.aload_n 0, 1) := by decide +kernel
theorem d_law_648 : decode code 648 = .ok (.iload 4, 2) := by decide +kernel
theorem d_law_650 : decode code 650 = .ok (.iconst 3, 1) := by decide +kernel
theorem d_law_651 : decode code 651 = .ok (.iadd, 1) := by decide +kernel
theorem d_law_652 : decode code 652 = .ok (.iaload, 1) := by decide +kernel
theorem d_law_653 : decode code 653 = .ok (.i2l, 1) := by decide +kernel
theorem d_law_654 : decode code 654 = .ok (.ldc2_w 70, 3) := by decide +kernel
theorem d_law_657 : decode code 657 = .ok (.land, 1) := by decide +kernel
theorem d_law_658 : decode code 658 = .ok (.lor, 1) := by decide +kernel
theorem d_law_659 : decode code 659 = .ok (.aload_n 3, 1) := by decide +kernel
theorem d_law_660 : decode code 660 = .ok (.invokestatic 107, 3) := by decide +kernel
theorem d_law_663 : decode code 663 = .ok (.istore 5, 2) := by decide +kernel
theorem d_law_665 : decode code 665 = .ok (.aload_n 2, 1) := by decide +kernel
theorem d_law_666 : decode code 666 = .ok (.aload_n 0, 1) := by decide +kernel
theorem d_law_667 : decode code 667 = .ok (.iload 4, 2) := by decide +kernel
theorem d_law_669 : decode code 669 = .ok (.iconst 1, 1) := by decide +kernel
theorem d_law_670 : decode code 670 = .ok (.iadd, 1) := by decide +kernel
theorem d_law_671 : decode code 671 = .ok (.iaload, 1) := by decide +kernel
theorem d_law_672 : decode code 672 = .ok (.aload_n 0, 1) := by decide +kernel
theorem d_law_673 : decode code 673 = .ok (.iload 4, 2) := by decide +kernel
theorem d_law_675 : decode code 675 = .ok (.iconst 2, 1) := by decide +kernel
theorem d_law_676 : decode code 676 = .ok (.iadd, 1) := by decide +kernel
theorem d_law_677 : decode code 677 = .ok (.iaload, 1) := by decide +kernel
theorem d_law_678 : decode code 678 = .ok (.i2l, 1) := by decide +kernel

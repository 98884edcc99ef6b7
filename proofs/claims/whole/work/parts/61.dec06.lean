theorem d_Lw_law_553 : decode code 553 = .ok (.aload_n 3, 1) := by decide +kernel
theorem d_Lw_law_554 : decode code 554 = .ok (.iconst 0, 1) := by decide +kernel
theorem d_Lw_law_555 : decode code 555 = .ok (.laload, 1) := by decide +kernel
theorem d_Lw_law_556 : decode code 556 = .ok (.iload 6, 2) := by decide +kernel
theorem d_Lw_law_558 : decode code 558 = .ok (.i2l, 1) := by decide +kernel
theorem d_Lw_law_559 : decode code 559 = .ok (.lcmp, 1) := by decide +kernel
theorem d_Lw_law_560 : decode code 560 = .ok (.ifCond .eq 5, 3) := by decide +kernel
theorem d_Lw_law_563 : decode code 563 = .ok (.iconst 0, 1) := by decide +kernel
theorem d_Lw_law_564 : decode code 564 = .ok (.ireturn, 1) := by decide +kernel
theorem d_Lw_law_565 : decode code 565 = .ok (.goto 545, 3) := by decide +kernel
theorem d_Lw_law_568 : decode code 568 = .ok (.aload_n 1, 1) := by decide +kernel
theorem d_Lw_law_569 : decode code 569 = .ok (.aload_n 0, 1) := by decide +kernel
theorem d_Lw_law_570 : decode code 570 = .ok (.iload 4, 2) := by decide +kernel
theorem d_Lw_law_572 : decode code 572 = .ok (.iconst 1, 1) := by decide +kernel
theorem d_Lw_law_573 : decode code 573 = .ok (.iadd, 1) := by decide +kernel
theorem d_Lw_law_574 : decode code 574 = .ok (.iaload, 1) := by decide +kernel
theorem d_Lw_law_575 : decode code 575 = .ok (.aload_n 0, 1) := by decide +kernel
theorem d_Lw_law_576 : decode code 576 = .ok (.iload 4, 2) := by decide +kernel
theorem d_Lw_law_578 : decode code 578 = .ok (.iconst 2, 1) := by decide +kernel
theorem d_Lw_law_579 : decode code 579 = .ok (.iadd, 1) := by decide +kernel
theorem d_Lw_law_580 : decode code 580 = .ok (.iaload, 1) := by decide +kernel
theorem d_Lw_law_581 : decode code 581 = .ok (.aload_n 3, 1) := by decide +kernel
theorem d_Lw_law_582 : decode code 582 = .ok (.invokestatic 105, 3) := by decide +kernel
theorem d_Lw_law_585 : decode code 585 = .ok (.istore 5, 2) := by decide +kernel
theorem d_Lw_law_587 : decode code 587 = .ok (.aload_n 2, 1) := by decide +kernel
theorem d_Lw_law_588 : decode code 588 = .ok (.aload_n 0, 1) := by decide +kernel
theorem d_Lw_law_589 : decode code 589 = .ok (.iload 4, 2) := by decide +kernel
theorem d_Lw_law_591 : decode code 591 = .ok (.iconst 1, 1) := by decide +kernel
theorem d_Lw_law_592 : decode code 592 = .ok (.iadd, 1) := by decide +kernel
theorem d_Lw_law_593 : decode code 593 = .ok (.iaload, 1) := by decide +kernel
theorem d_Lw_law_594 : decode code 594 = .ok (.aload_n 0, 1) := by decide +kernel
theorem d_Lw_law_595 : decode code 595 = .ok (.iload 4, 2) := by decide +kernel
theorem d_Lw_law_597 : decode code 597 = .ok (.iconst 2, 1) := by decide +kernel
theorem d_Lw_law_598 : decode code 598 = .ok (.iadd, 1) := by decide +kernel
theorem d_Lw_law_599 : decode code 599 = .ok (.iaload, 1) := by decide +kernel
theorem d_Lw_law_600 : decode code 600 = .ok (.invokevirtual 107, 3) := by decide +kernel
theorem d_Lw_law_603 : decode code 603 = .ok (.istore 6, 2) := by decide +kernel
theorem d_Lw_law_605 : decode code 605 = .ok (.aload_n 2, 1) := by decide +kernel
theorem d_Lw_law_606 : decode code 606 = .ok (.invokevirtual 77, 3) := by decide +kernel
theorem d_Lw_law_609 : decode code 609 = .ok (.iload 5, 2) := by decide +kernel
theorem d_Lw_law_611 : decode code 611 = .ok (.if_icmp .eq 5, 3) := by decide +kernel
theorem d_Lw_law_614 : decode code 614 = .ok (.iconst 0, 1) := by decide +kernel
theorem d_Lw_law_615 : decode code 615 = .ok (.ireturn, 1) := by decide +kernel
theorem d_Lw_law_616 : decode code 616 = .ok (.iload 5, 2) := by decide +kernel
theorem d_Lw_law_618 : decode code 618 = .ok (.ifCond .ne 22, 3) := by decide +kernel
theorem d_Lw_law_621 : decode code 621 = .ok (.aload_n 3, 1) := by decide +kernel
theorem d_Lw_law_622 : decode code 622 = .ok (.iconst 0, 1) := by decide +kernel
theorem d_Lw_law_623 : decode code 623 = .ok (.laload, 1) := by decide +kernel
theorem d_Lw_law_624 : decode code 624 = .ok (.iload 6, 2) := by decide +kernel
theorem d_Lw_law_626 : decode code 626 = .ok (.ifCond .eq 7, 3) := by decide +kernel
theorem d_Lw_law_629 : decode code 629 = .ok (.lconst 1, 1) := by decide +kernel
theorem d_Lw_law_630 : decode code 630 = .ok (.goto 4, 3) := by decide +kernel
theorem d_Lw_law_633 : decode code 633 = .ok (.lconst 0, 1) := by decide +kernel
theorem d_Lw_law_634 : decode code 634 = .ok (.lcmp, 1) := by decide +kernel
theorem d_Lw_law_635 : decode code 635 = .ok (.ifCond .eq 5, 3) := by decide +kernel
theorem d_Lw_law_638 : decode code 638 = .ok (.iconst 0, 1) := by decide +kernel
theorem d_Lw_law_639 : decode code 639 = .ok (.ireturn, 1) := by decide +kernel
theorem d_Lw_law_640 : decode code 640 = .ok (.goto 470, 3) := by decide +kernel
theorem d_Lw_law_643 : decode code 643 = .ok (.aload_n 1, 1) := by decide +kernel
theorem d_Lw_law_644 : decode code 644 = .ok (.aload_n 0, 1) := by decide +kernel

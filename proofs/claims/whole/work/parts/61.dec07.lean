theorem d_Lw_law_645 : decode code 645 = .ok (.iload 4, 2) := by decide +kernel
theorem d_Lw_law_647 : decode code 647 = .ok (.iconst 1, 1) := by decide +kernel
theorem d_Lw_law_648 : decode code 648 = .ok (.iadd, 1) := by decide +kernel
theorem d_Lw_law_649 : decode code 649 = .ok (.iaload, 1) := by decide +kernel
theorem d_Lw_law_650 : decode code 650 = .ok (.aload_n 3, 1) := by decide +kernel
theorem d_Lw_law_651 : decode code 651 = .ok (.invokestatic 108, 3) := by decide +kernel
theorem d_Lw_law_654 : decode code 654 = .ok (.istore 5, 2) := by decide +kernel
theorem d_Lw_law_656 : decode code 656 = .ok (.aload_n 2, 1) := by decide +kernel
theorem d_Lw_law_657 : decode code 657 = .ok (.aload_n 0, 1) := by decide +kernel
theorem d_Lw_law_658 : decode code 658 = .ok (.iload 4, 2) := by decide +kernel
theorem d_Lw_law_660 : decode code 660 = .ok (.iconst 1, 1) := by decide +kernel
theorem d_Lw_law_661 : decode code 661 = .ok (.iadd, 1) := by decide +kernel
theorem d_Lw_law_662 : decode code 662 = .ok (.iaload, 1) := by decide +kernel
theorem d_Lw_law_663 : decode code 663 = .ok (.invokevirtual 110, 3) := by decide +kernel
theorem d_Lw_law_666 : decode code 666 = .ok (.istore 6, 2) := by decide +kernel
theorem d_Lw_law_668 : decode code 668 = .ok (.aload_n 2, 1) := by decide +kernel
theorem d_Lw_law_669 : decode code 669 = .ok (.invokevirtual 77, 3) := by decide +kernel
theorem d_Lw_law_672 : decode code 672 = .ok (.iload 5, 2) := by decide +kernel
theorem d_Lw_law_674 : decode code 674 = .ok (.if_icmp .eq 5, 3) := by decide +kernel
theorem d_Lw_law_677 : decode code 677 = .ok (.iconst 0, 1) := by decide +kernel
theorem d_Lw_law_678 : decode code 678 = .ok (.ireturn, 1) := by decide +kernel
theorem d_Lw_law_679 : decode code 679 = .ok (.iload 5, 2) := by decide +kernel
theorem d_Lw_law_681 : decode code 681 = .ok (.ifCond .ne 15, 3) := by decide +kernel
theorem d_Lw_law_684 : decode code 684 = .ok (.aload_n 3, 1) := by decide +kernel
theorem d_Lw_law_685 : decode code 685 = .ok (.iconst 0, 1) := by decide +kernel
theorem d_Lw_law_686 : decode code 686 = .ok (.laload, 1) := by decide +kernel
theorem d_Lw_law_687 : decode code 687 = .ok (.iload 6, 2) := by decide +kernel
theorem d_Lw_law_689 : decode code 689 = .ok (.i2l, 1) := by decide +kernel
theorem d_Lw_law_690 : decode code 690 = .ok (.lcmp, 1) := by decide +kernel
theorem d_Lw_law_691 : decode code 691 = .ok (.ifCond .eq 5, 3) := by decide +kernel
theorem d_Lw_law_694 : decode code 694 = .ok (.iconst 0, 1) := by decide +kernel
theorem d_Lw_law_695 : decode code 695 = .ok (.ireturn, 1) := by decide +kernel
theorem d_Lw_law_696 : decode code 696 = .ok (.goto 414, 3) := by decide +kernel
theorem d_Lw_law_699 : decode code 699 = .ok (.aload_n 1, 1) := by decide +kernel
theorem d_Lw_law_700 : decode code 700 = .ok (.aload_n 3, 1) := by decide +kernel
theorem d_Lw_law_701 : decode code 701 = .ok (.invokestatic 111, 3) := by decide +kernel
theorem d_Lw_law_704 : decode code 704 = .ok (.istore 5, 2) := by decide +kernel
theorem d_Lw_law_706 : decode code 706 = .ok (.aload_n 2, 1) := by decide +kernel
theorem d_Lw_law_707 : decode code 707 = .ok (.invokevirtual 113, 3) := by decide +kernel
theorem d_Lw_law_710 : decode code 710 = .ok (.istore 6, 2) := by decide +kernel
theorem d_Lw_law_712 : decode code 712 = .ok (.aload_n 2, 1) := by decide +kernel
theorem d_Lw_law_713 : decode code 713 = .ok (.invokevirtual 77, 3) := by decide +kernel
theorem d_Lw_law_716 : decode code 716 = .ok (.iload 5, 2) := by decide +kernel
theorem d_Lw_law_718 : decode code 718 = .ok (.if_icmp .eq 5, 3) := by decide +kernel
theorem d_Lw_law_721 : decode code 721 = .ok (.iconst 0, 1) := by decide +kernel
theorem d_Lw_law_722 : decode code 722 = .ok (.ireturn, 1) := by decide +kernel
theorem d_Lw_law_723 : decode code 723 = .ok (.iload 5, 2) := by decide +kernel
theorem d_Lw_law_725 : decode code 725 = .ok (.ifCond .ne 15, 3) := by decide +kernel
theorem d_Lw_law_728 : decode code 728 = .ok (.aload_n 3, 1) := by decide +kernel
theorem d_Lw_law_729 : decode code 729 = .ok (.iconst 0, 1) := by decide +kernel
theorem d_Lw_law_730 : decode code 730 = .ok (.laload, 1) := by decide +kernel
theorem d_Lw_law_731 : decode code 731 = .ok (.iload 6, 2) := by decide +kernel
theorem d_Lw_law_733 : decode code 733 = .ok (.i2l, 1) := by decide +kernel
theorem d_Lw_law_734 : decode code 734 = .ok (.lcmp, 1) := by decide +kernel
theorem d_Lw_law_735 : decode code 735 = .ok (.ifCond .eq 5, 3) := by decide +kernel
theorem d_Lw_law_738 : decode code 738 = .ok (.iconst 0, 1) := by decide +kernel
theorem d_Lw_law_739 : decode code 739 = .ok (.ireturn, 1) := by decide +kernel
theorem d_Lw_law_740 : decode code 740 = .ok (.goto 370, 3) := by decide +kernel
theorem d_Lw_law_743 : decode code 743 = .ok (.aload_n 1, 1) := by decide +kernel
theorem d_Lw_law_744 : decode code 744 = .ok (.aload_n 0, 1) := by decide +kernel

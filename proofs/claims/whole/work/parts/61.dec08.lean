theorem d_Lw_law_745 : decode code 745 = .ok (.iload 4, 2) := by decide +kernel
theorem d_Lw_law_747 : decode code 747 = .ok (.iconst 1, 1) := by decide +kernel
theorem d_Lw_law_748 : decode code 748 = .ok (.iadd, 1) := by decide +kernel
theorem d_Lw_law_749 : decode code 749 = .ok (.iaload, 1) := by decide +kernel
theorem d_Lw_law_750 : decode code 750 = .ok (.aload_n 0, 1) := by decide +kernel
theorem d_Lw_law_751 : decode code 751 = .ok (.iload 4, 2) := by decide +kernel
theorem d_Lw_law_753 : decode code 753 = .ok (.iconst 2, 1) := by decide +kernel
theorem d_Lw_law_754 : decode code 754 = .ok (.iadd, 1) := by decide +kernel
theorem d_Lw_law_755 : decode code 755 = .ok (.iaload, 1) := by decide +kernel
theorem d_Lw_law_756 : decode code 756 = .ok (.aload_n 3, 1) := by decide +kernel
theorem d_Lw_law_757 : decode code 757 = .ok (.invokestatic 114, 3) := by decide +kernel
theorem d_Lw_law_760 : decode code 760 = .ok (.istore 5, 2) := by decide +kernel
theorem d_Lw_law_762 : decode code 762 = .ok (.aload_n 2, 1) := by decide +kernel
theorem d_Lw_law_763 : decode code 763 = .ok (.aload_n 0, 1) := by decide +kernel
theorem d_Lw_law_764 : decode code 764 = .ok (.iload 4, 2) := by decide +kernel
theorem d_Lw_law_766 : decode code 766 = .ok (.iconst 1, 1) := by decide +kernel
theorem d_Lw_law_767 : decode code 767 = .ok (.iadd, 1) := by decide +kernel
theorem d_Lw_law_768 : decode code 768 = .ok (.iaload, 1) := by decide +kernel
theorem d_Lw_law_769 : decode code 769 = .ok (.aload_n 0, 1) := by decide +kernel
theorem d_Lw_law_770 : decode code 770 = .ok (.iload 4, 2) := by decide +kernel
theorem d_Lw_law_772 : decode code 772 = .ok (.iconst 2, 1) := by decide +kernel
theorem d_Lw_law_773 : decode code 773 = .ok (.iadd, 1) := by decide +kernel
theorem d_Lw_law_774 : decode code 774 = .ok (.iaload, 1) := by decide +kernel
theorem d_Lw_law_775 : decode code 775 = .ok (.invokevirtual 116, 3) := by decide +kernel
theorem d_Lw_law_778 : decode code 778 = .ok (.istore 6, 2) := by decide +kernel
theorem d_Lw_law_780 : decode code 780 = .ok (.aload_n 2, 1) := by decide +kernel
theorem d_Lw_law_781 : decode code 781 = .ok (.invokevirtual 77, 3) := by decide +kernel
theorem d_Lw_law_784 : decode code 784 = .ok (.iload 5, 2) := by decide +kernel
theorem d_Lw_law_786 : decode code 786 = .ok (.if_icmp .eq 5, 3) := by decide +kernel
theorem d_Lw_law_789 : decode code 789 = .ok (.iconst 0, 1) := by decide +kernel
theorem d_Lw_law_790 : decode code 790 = .ok (.ireturn, 1) := by decide +kernel
theorem d_Lw_law_791 : decode code 791 = .ok (.iload 5, 2) := by decide +kernel
theorem d_Lw_law_793 : decode code 793 = .ok (.ifCond .ne 22, 3) := by decide +kernel
theorem d_Lw_law_796 : decode code 796 = .ok (.aload_n 3, 1) := by decide +kernel
theorem d_Lw_law_797 : decode code 797 = .ok (.iconst 0, 1) := by decide +kernel
theorem d_Lw_law_798 : decode code 798 = .ok (.laload, 1) := by decide +kernel
theorem d_Lw_law_799 : decode code 799 = .ok (.iload 6, 2) := by decide +kernel
theorem d_Lw_law_801 : decode code 801 = .ok (.ifCond .eq 7, 3) := by decide +kernel
theorem d_Lw_law_804 : decode code 804 = .ok (.lconst 1, 1) := by decide +kernel
theorem d_Lw_law_805 : decode code 805 = .ok (.goto 4, 3) := by decide +kernel
theorem d_Lw_law_808 : decode code 808 = .ok (.lconst 0, 1) := by decide +kernel
theorem d_Lw_law_809 : decode code 809 = .ok (.lcmp, 1) := by decide +kernel
theorem d_Lw_law_810 : decode code 810 = .ok (.ifCond .eq 5, 3) := by decide +kernel
theorem d_Lw_law_813 : decode code 813 = .ok (.iconst 0, 1) := by decide +kernel
theorem d_Lw_law_814 : decode code 814 = .ok (.ireturn, 1) := by decide +kernel
theorem d_Lw_law_815 : decode code 815 = .ok (.goto 295, 3) := by decide +kernel
theorem d_Lw_law_818 : decode code 818 = .ok (.aload_n 1, 1) := by decide +kernel
theorem d_Lw_law_819 : decode code 819 = .ok (.aload_n 0, 1) := by decide +kernel
theorem d_Lw_law_820 : decode code 820 = .ok (.iload 4, 2) := by decide +kernel
theorem d_Lw_law_822 : decode code 822 = .ok (.iconst 1, 1) := by decide +kernel
theorem d_Lw_law_823 : decode code 823 = .ok (.iadd, 1) := by decide +kernel
theorem d_Lw_law_824 : decode code 824 = .ok (.iaload, 1) := by decide +kernel
theorem d_Lw_law_825 : decode code 825 = .ok (.aload_n 3, 1) := by decide +kernel
theorem d_Lw_law_826 : decode code 826 = .ok (.invokestatic 117, 3) := by decide +kernel
theorem d_Lw_law_829 : decode code 829 = .ok (.istore 5, 2) := by decide +kernel
theorem d_Lw_law_831 : decode code 831 = .ok (.aload_n 2, 1) := by decide +kernel
theorem d_Lw_law_832 : decode code 832 = .ok (.aload_n 0, 1) := by decide +kernel
theorem d_Lw_law_833 : decode code 833 = .ok (.iload 4, 2) := by decide +kernel
theorem d_Lw_law_835 : decode code 835 = .ok (.iconst 1, 1) := by decide +kernel
theorem d_Lw_law_836 : decode code 836 = .ok (.iadd, 1) := by decide +kernel

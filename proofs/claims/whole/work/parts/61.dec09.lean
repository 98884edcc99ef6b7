theorem d_Lw_law_837 : decode code 837 = .ok (.iaload, 1) := by decide +kernel
theorem d_Lw_law_838 : decode code 838 = .ok (.invokevirtual 119, 3) := by decide +kernel
theorem d_Lw_law_841 : decode code 841 = .ok (.istore 6, 2) := by decide +kernel
theorem d_Lw_law_843 : decode code 843 = .ok (.aload_n 2, 1) := by decide +kernel
theorem d_Lw_law_844 : decode code 844 = .ok (.invokevirtual 77, 3) := by decide +kernel
theorem d_Lw_law_847 : decode code 847 = .ok (.iload 5, 2) := by decide +kernel
theorem d_Lw_law_849 : decode code 849 = .ok (.if_icmp .eq 5, 3) := by decide +kernel
theorem d_Lw_law_852 : decode code 852 = .ok (.iconst 0, 1) := by decide +kernel
theorem d_Lw_law_853 : decode code 853 = .ok (.ireturn, 1) := by decide +kernel
theorem d_Lw_law_854 : decode code 854 = .ok (.iload 5, 2) := by decide +kernel
theorem d_Lw_law_856 : decode code 856 = .ok (.ifCond .ne 15, 3) := by decide +kernel
theorem d_Lw_law_859 : decode code 859 = .ok (.aload_n 3, 1) := by decide +kernel
theorem d_Lw_law_860 : decode code 860 = .ok (.iconst 0, 1) := by decide +kernel
theorem d_Lw_law_861 : decode code 861 = .ok (.laload, 1) := by decide +kernel
theorem d_Lw_law_862 : decode code 862 = .ok (.iload 6, 2) := by decide +kernel
theorem d_Lw_law_864 : decode code 864 = .ok (.i2l, 1) := by decide +kernel
theorem d_Lw_law_865 : decode code 865 = .ok (.lcmp, 1) := by decide +kernel
theorem d_Lw_law_866 : decode code 866 = .ok (.ifCond .eq 5, 3) := by decide +kernel
theorem d_Lw_law_869 : decode code 869 = .ok (.iconst 0, 1) := by decide +kernel
theorem d_Lw_law_870 : decode code 870 = .ok (.ireturn, 1) := by decide +kernel
theorem d_Lw_law_871 : decode code 871 = .ok (.goto 239, 3) := by decide +kernel
theorem d_Lw_law_874 : decode code 874 = .ok (.aload_n 1, 1) := by decide +kernel
theorem d_Lw_law_875 : decode code 875 = .ok (.aload_n 0, 1) := by decide +kernel
theorem d_Lw_law_876 : decode code 876 = .ok (.iload 4, 2) := by decide +kernel
theorem d_Lw_law_878 : decode code 878 = .ok (.iconst 1, 1) := by decide +kernel
theorem d_Lw_law_879 : decode code 879 = .ok (.iadd, 1) := by decide +kernel
theorem d_Lw_law_880 : decode code 880 = .ok (.iaload, 1) := by decide +kernel
theorem d_Lw_law_881 : decode code 881 = .ok (.aload_n 3, 1) := by decide +kernel
theorem d_Lw_law_882 : decode code 882 = .ok (.invokestatic 120, 3) := by decide +kernel
theorem d_Lw_law_885 : decode code 885 = .ok (.istore 5, 2) := by decide +kernel
theorem d_Lw_law_887 : decode code 887 = .ok (.aload_n 2, 1) := by decide +kernel
theorem d_Lw_law_888 : decode code 888 = .ok (.aload_n 0, 1) := by decide +kernel
theorem d_Lw_law_889 : decode code 889 = .ok (.iload 4, 2) := by decide +kernel
theorem d_Lw_law_891 : decode code 891 = .ok (.iconst 1, 1) := by decide +kernel
theorem d_Lw_law_892 : decode code 892 = .ok (.iadd, 1) := by decide +kernel
theorem d_Lw_law_893 : decode code 893 = .ok (.iaload, 1) := by decide +kernel
theorem d_Lw_law_894 : decode code 894 = .ok (.invokevirtual 122, 3) := by decide +kernel
theorem d_Lw_law_897 : decode code 897 = .ok (.istore 6, 2) := by decide +kernel
theorem d_Lw_law_899 : decode code 899 = .ok (.aload_n 2, 1) := by decide +kernel
theorem d_Lw_law_900 : decode code 900 = .ok (.invokevirtual 77, 3) := by decide +kernel
theorem d_Lw_law_903 : decode code 903 = .ok (.iload 5, 2) := by decide +kernel
theorem d_Lw_law_905 : decode code 905 = .ok (.if_icmp .eq 5, 3) := by decide +kernel
theorem d_Lw_law_908 : decode code 908 = .ok (.iconst 0, 1) := by decide +kernel
theorem d_Lw_law_909 : decode code 909 = .ok (.ireturn, 1) := by decide +kernel
theorem d_Lw_law_910 : decode code 910 = .ok (.iload 5, 2) := by decide +kernel
theorem d_Lw_law_912 : decode code 912 = .ok (.ifCond .ne 15, 3) := by decide +kernel
theorem d_Lw_law_915 : decode code 915 = .ok (.aload_n 3, 1) := by decide +kernel
theorem d_Lw_law_916 : decode code 916 = .ok (.iconst 0, 1) := by decide +kernel
theorem d_Lw_law_917 : decode code 917 = .ok (.laload, 1) := by decide +kernel
theorem d_Lw_law_918 : decode code 918 = .ok (.iload 6, 2) := by decide +kernel
theorem d_Lw_law_920 : decode code 920 = .ok (.i2l, 1) := by decide +kernel
theorem d_Lw_law_921 : decode code 921 = .ok (.lcmp, 1) := by decide +kernel
theorem d_Lw_law_922 : decode code 922 = .ok (.ifCond .eq 5, 3) := by decide +kernel
theorem d_Lw_law_925 : decode code 925 = .ok (.iconst 0, 1) := by decide +kernel
theorem d_Lw_law_926 : decode code 926 = .ok (.ireturn, 1) := by decide +kernel
theorem d_Lw_law_927 : decode code 927 = .ok (.goto 183, 3) := by decide +kernel
theorem d_Lw_law_930 : decode code 930 = .ok (.aload_n 1, 1) := by decide +kernel
theorem d_Lw_law_931 : decode code 931 = .ok (.aload_n 3, 1) := by decide +kernel
theorem d_Lw_law_932 : decode code 932 = .ok (.invokestatic 123, 3) := by decide +kernel
theorem d_Lw_law_935 : decode code 935 = .ok (.istore 5, 2) := by decide +kernel

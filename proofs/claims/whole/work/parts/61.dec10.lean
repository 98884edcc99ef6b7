theorem d_Lw_law_937 : decode code 937 = .ok (.aload_n 2, 1) := by decide +kernel
theorem d_Lw_law_938 : decode code 938 = .ok (.invokevirtual 125, 3) := by decide +kernel
theorem d_Lw_law_941 : decode code 941 = .ok (.istore 6, 2) := by decide +kernel
theorem d_Lw_law_943 : decode code 943 = .ok (.aload_n 2, 1) := by decide +kernel
theorem d_Lw_law_944 : decode code 944 = .ok (.invokevirtual 77, 3) := by decide +kernel
theorem d_Lw_law_947 : decode code 947 = .ok (.iload 5, 2) := by decide +kernel
theorem d_Lw_law_949 : decode code 949 = .ok (.if_icmp .eq 5, 3) := by decide +kernel
theorem d_Lw_law_952 : decode code 952 = .ok (.iconst 0, 1) := by decide +kernel
theorem d_Lw_law_953 : decode code 953 = .ok (.ireturn, 1) := by decide +kernel
theorem d_Lw_law_954 : decode code 954 = .ok (.iload 5, 2) := by decide +kernel
theorem d_Lw_law_956 : decode code 956 = .ok (.ifCond .ne 15, 3) := by decide +kernel
theorem d_Lw_law_959 : decode code 959 = .ok (.aload_n 3, 1) := by decide +kernel
theorem d_Lw_law_960 : decode code 960 = .ok (.iconst 0, 1) := by decide +kernel
theorem d_Lw_law_961 : decode code 961 = .ok (.laload, 1) := by decide +kernel
theorem d_Lw_law_962 : decode code 962 = .ok (.iload 6, 2) := by decide +kernel
theorem d_Lw_law_964 : decode code 964 = .ok (.i2l, 1) := by decide +kernel
theorem d_Lw_law_965 : decode code 965 = .ok (.lcmp, 1) := by decide +kernel
theorem d_Lw_law_966 : decode code 966 = .ok (.ifCond .eq 5, 3) := by decide +kernel
theorem d_Lw_law_969 : decode code 969 = .ok (.iconst 0, 1) := by decide +kernel
theorem d_Lw_law_970 : decode code 970 = .ok (.ireturn, 1) := by decide +kernel
theorem d_Lw_law_971 : decode code 971 = .ok (.goto 139, 3) := by decide +kernel
theorem d_Lw_law_974 : decode code 974 = .ok (.aload_n 1, 1) := by decide +kernel
theorem d_Lw_law_975 : decode code 975 = .ok (.aload_n 0, 1) := by decide +kernel
theorem d_Lw_law_976 : decode code 976 = .ok (.iload 4, 2) := by decide +kernel
theorem d_Lw_law_978 : decode code 978 = .ok (.iconst 1, 1) := by decide +kernel
theorem d_Lw_law_979 : decode code 979 = .ok (.iadd, 1) := by decide +kernel
theorem d_Lw_law_980 : decode code 980 = .ok (.iaload, 1) := by decide +kernel
theorem d_Lw_law_981 : decode code 981 = .ok (.aload_n 0, 1) := by decide +kernel
theorem d_Lw_law_982 : decode code 982 = .ok (.iload 4, 2) := by decide +kernel
theorem d_Lw_law_984 : decode code 984 = .ok (.iconst 2, 1) := by decide +kernel
theorem d_Lw_law_985 : decode code 985 = .ok (.iadd, 1) := by decide +kernel
theorem d_Lw_law_986 : decode code 986 = .ok (.iaload, 1) := by decide +kernel
theorem d_Lw_law_987 : decode code 987 = .ok (.aload_n 0, 1) := by decide +kernel
theorem d_Lw_law_988 : decode code 988 = .ok (.iload 4, 2) := by decide +kernel
theorem d_Lw_law_990 : decode code 990 = .ok (.iconst 3, 1) := by decide +kernel
theorem d_Lw_law_991 : decode code 991 = .ok (.iadd, 1) := by decide +kernel
theorem d_Lw_law_992 : decode code 992 = .ok (.iaload, 1) := by decide +kernel
theorem d_Lw_law_993 : decode code 993 = .ok (.aload_n 3, 1) := by decide +kernel
theorem d_Lw_law_994 : decode code 994 = .ok (.invokestatic 126, 3) := by decide +kernel
theorem d_Lw_law_997 : decode code 997 = .ok (.istore 5, 2) := by decide +kernel
theorem d_Lw_law_999 : decode code 999 = .ok (.aload_n 2, 1) := by decide +kernel
theorem d_Lw_law_1000 : decode code 1000 = .ok (.aload_n 0, 1) := by decide +kernel
theorem d_Lw_law_1001 : decode code 1001 = .ok (.iload 4, 2) := by decide +kernel
theorem d_Lw_law_1003 : decode code 1003 = .ok (.iconst 1, 1) := by decide +kernel
theorem d_Lw_law_1004 : decode code 1004 = .ok (.iadd, 1) := by decide +kernel
theorem d_Lw_law_1005 : decode code 1005 = .ok (.iaload, 1) := by decide +kernel
theorem d_Lw_law_1006 : decode code 1006 = .ok (.aload_n 0, 1) := by decide +kernel
theorem d_Lw_law_1007 : decode code 1007 = .ok (.iload 4, 2) := by decide +kernel
theorem d_Lw_law_1009 : decode code 1009 = .ok (.iconst 2, 1) := by decide +kernel
theorem d_Lw_law_1010 : decode code 1010 = .ok (.iadd, 1) := by decide +kernel
theorem d_Lw_law_1011 : decode code 1011 = .ok (.iaload, 1) := by decide +kernel
theorem d_Lw_law_1012 : decode code 1012 = .ok (.aload_n 0, 1) := by decide +kernel
theorem d_Lw_law_1013 : decode code 1013 = .ok (.iload 4, 2) := by decide +kernel
theorem d_Lw_law_1015 : decode code 1015 = .ok (.iconst 3, 1) := by decide +kernel
theorem d_Lw_law_1016 : decode code 1016 = .ok (.iadd, 1) := by decide +kernel
theorem d_Lw_law_1017 : decode code 1017 = .ok (.iaload, 1) := by decide +kernel
theorem d_Lw_law_1018 : decode code 1018 = .ok (.invokevirtual 128, 3) := by decide +kernel
theorem d_Lw_law_1021 : decode code 1021 = .ok (.istore 6, 2) := by decide +kernel
theorem d_Lw_law_1023 : decode code 1023 = .ok (.aload_n 2, 1) := by decide +kernel
theorem d_Lw_law_1024 : decode code 1024 = .ok (.invokevirtual 77, 3) := by decide +kernel

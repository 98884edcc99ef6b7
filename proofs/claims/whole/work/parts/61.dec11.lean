theorem d_Lw_law_1027 : decode code 1027 = .ok (.iload 5, 2) := by decide +kernel
theorem d_Lw_law_1029 : decode code 1029 = .ok (.if_icmp .eq 5, 3) := by decide +kernel
theorem d_Lw_law_1032 : decode code 1032 = .ok (.iconst 0, 1) := by decide +kernel
theorem d_Lw_law_1033 : decode code 1033 = .ok (.ireturn, 1) := by decide +kernel
theorem d_Lw_law_1034 : decode code 1034 = .ok (.iload 5, 2) := by decide +kernel
theorem d_Lw_law_1036 : decode code 1036 = .ok (.ifCond .ne 15, 3) := by decide +kernel
theorem d_Lw_law_1039 : decode code 1039 = .ok (.aload_n 3, 1) := by decide +kernel
theorem d_Lw_law_1040 : decode code 1040 = .ok (.iconst 0, 1) := by decide +kernel
theorem d_Lw_law_1041 : decode code 1041 = .ok (.laload, 1) := by decide +kernel
theorem d_Lw_law_1042 : decode code 1042 = .ok (.iload 6, 2) := by decide +kernel
theorem d_Lw_law_1044 : decode code 1044 = .ok (.i2l, 1) := by decide +kernel
theorem d_Lw_law_1045 : decode code 1045 = .ok (.lcmp, 1) := by decide +kernel
theorem d_Lw_law_1046 : decode code 1046 = .ok (.ifCond .eq 5, 3) := by decide +kernel
theorem d_Lw_law_1049 : decode code 1049 = .ok (.iconst 0, 1) := by decide +kernel
theorem d_Lw_law_1050 : decode code 1050 = .ok (.ireturn, 1) := by decide +kernel
theorem d_Lw_law_1051 : decode code 1051 = .ok (.goto 59, 3) := by decide +kernel
theorem d_Lw_law_1054 : decode code 1054 = .ok (.aload_n 1, 1) := by decide +kernel
theorem d_Lw_law_1055 : decode code 1055 = .ok (.aload_n 0, 1) := by decide +kernel
theorem d_Lw_law_1056 : decode code 1056 = .ok (.iload 4, 2) := by decide +kernel
theorem d_Lw_law_1058 : decode code 1058 = .ok (.iconst 1, 1) := by decide +kernel
theorem d_Lw_law_1059 : decode code 1059 = .ok (.iadd, 1) := by decide +kernel
theorem d_Lw_law_1060 : decode code 1060 = .ok (.iaload, 1) := by decide +kernel
theorem d_Lw_law_1061 : decode code 1061 = .ok (.aload_n 3, 1) := by decide +kernel
theorem d_Lw_law_1062 : decode code 1062 = .ok (.invokestatic 129, 3) := by decide +kernel
theorem d_Lw_law_1065 : decode code 1065 = .ok (.istore 5, 2) := by decide +kernel
theorem d_Lw_law_1067 : decode code 1067 = .ok (.aload_n 2, 1) := by decide +kernel
theorem d_Lw_law_1068 : decode code 1068 = .ok (.aload_n 0, 1) := by decide +kernel
theorem d_Lw_law_1069 : decode code 1069 = .ok (.iload 4, 2) := by decide +kernel
theorem d_Lw_law_1071 : decode code 1071 = .ok (.iconst 1, 1) := by decide +kernel
theorem d_Lw_law_1072 : decode code 1072 = .ok (.iadd, 1) := by decide +kernel
theorem d_Lw_law_1073 : decode code 1073 = .ok (.iaload, 1) := by decide +kernel
theorem d_Lw_law_1074 : decode code 1074 = .ok (.invokevirtual 131, 3) := by decide +kernel
theorem d_Lw_law_1077 : decode code 1077 = .ok (.istore 6, 2) := by decide +kernel
theorem d_Lw_law_1079 : decode code 1079 = .ok (.aload_n 2, 1) := by decide +kernel
theorem d_Lw_law_1080 : decode code 1080 = .ok (.invokevirtual 77, 3) := by decide +kernel
theorem d_Lw_law_1083 : decode code 1083 = .ok (.iload 5, 2) := by decide +kernel
theorem d_Lw_law_1085 : decode code 1085 = .ok (.if_icmp .eq 5, 3) := by decide +kernel
theorem d_Lw_law_1088 : decode code 1088 = .ok (.iconst 0, 1) := by decide +kernel
theorem d_Lw_law_1089 : decode code 1089 = .ok (.ireturn, 1) := by decide +kernel
theorem d_Lw_law_1090 : decode code 1090 = .ok (.iload 5, 2) := by decide +kernel
theorem d_Lw_law_1092 : decode code 1092 = .ok (.ifCond .ne 15, 3) := by decide +kernel
theorem d_Lw_law_1095 : decode code 1095 = .ok (.aload_n 3, 1) := by decide +kernel
theorem d_Lw_law_1096 : decode code 1096 = .ok (.iconst 0, 1) := by decide +kernel
theorem d_Lw_law_1097 : decode code 1097 = .ok (.laload, 1) := by decide +kernel
theorem d_Lw_law_1098 : decode code 1098 = .ok (.iload 6, 2) := by decide +kernel
theorem d_Lw_law_1100 : decode code 1100 = .ok (.i2l, 1) := by decide +kernel
theorem d_Lw_law_1101 : decode code 1101 = .ok (.lcmp, 1) := by decide +kernel
theorem d_Lw_law_1102 : decode code 1102 = .ok (.ifCond .eq 5, 3) := by decide +kernel
theorem d_Lw_law_1105 : decode code 1105 = .ok (.iconst 0, 1) := by decide +kernel
theorem d_Lw_law_1106 : decode code 1106 = .ok (.ireturn, 1) := by decide +kernel
theorem d_Lw_law_1107 : decode code 1107 = .ok (.goto 3, 3) := by decide +kernel
theorem d_Lw_law_1110 : decode code 1110 = .ok (.iinc 4 4, 3) := by decide +kernel
theorem d_Lw_law_1113 : decode code 1113 = .ok (.goto (-1090), 3) := by decide +kernel
theorem d_Lw_law_1116 : decode code 1116 = .ok (.iconst 1, 1) := by decide +kernel
theorem d_Lw_law_1117 : decode code 1117 = .ok (.ireturn, 1) := by decide +kernel

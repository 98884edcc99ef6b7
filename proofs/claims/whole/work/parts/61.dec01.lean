theorem d_Lw_law_0 : decode code 0 = .ok (.new 8, 3) := by decide +kernel
theorem d_Lw_law_3 : decode code 3 = .ok (.dup, 1) := by decide +kernel
theorem d_Lw_law_4 : decode code 4 = .ok (.invokespecial 67, 3) := by decide +kernel
theorem d_Lw_law_7 : decode code 7 = .ok (.astore_n 1, 1) := by decide +kernel
theorem d_Lw_law_8 : decode code 8 = .ok (.new 68, 3) := by decide +kernel
theorem d_Lw_law_11 : decode code 11 = .ok (.dup, 1) := by decide +kernel
theorem d_Lw_law_12 : decode code 12 = .ok (.invokespecial 70, 3) := by decide +kernel
theorem d_Lw_law_15 : decode code 15 = .ok (.astore_n 2, 1) := by decide +kernel
theorem d_Lw_law_16 : decode code 16 = .ok (.iconst 1, 1) := by decide +kernel
theorem d_Lw_law_17 : decode code 17 = .ok (.newarray .long, 2) := by decide +kernel
theorem d_Lw_law_19 : decode code 19 = .ok (.astore_n 3, 1) := by decide +kernel
theorem d_Lw_law_20 : decode code 20 = .ok (.iconst 0, 1) := by decide +kernel
theorem d_Lw_law_21 : decode code 21 = .ok (.istore 4, 2) := by decide +kernel
theorem d_Lw_law_23 : decode code 23 = .ok (.iload 4, 2) := by decide +kernel
theorem d_Lw_law_25 : decode code 25 = .ok (.aload_n 0, 1) := by decide +kernel
theorem d_Lw_law_26 : decode code 26 = .ok (.arraylength, 1) := by decide +kernel
theorem d_Lw_law_27 : decode code 27 = .ok (.iconst 4, 1) := by decide +kernel
theorem d_Lw_law_28 : decode code 28 = .ok (.isub, 1) := by decide +kernel
theorem d_Lw_law_29 : decode code 29 = .ok (.if_icmp .gt 1087, 3) := by decide +kernel
theorem d_Lw_law_32 : decode code 32 = .ok (.aload_n 0, 1) := by decide +kernel
theorem d_Lw_law_33 : decode code 33 = .ok (.iload 4, 2) := by decide +kernel
theorem d_Lw_law_35 : decode code 35 = .ok (.iaload, 1) := by decide +kernel
theorem d_Lw_law_36 : decode code 36 = .ok (.bipush 31, 2) := by decide +kernel
theorem d_Lw_law_38 : decode code 38 = .ok (.iand, 1) := by decide +kernel
theorem d_Lw_law_39 : decode code 39 = .ok (.tableswitch 1071 0 16 #[81, 125, 205, 261, 324, 392, 405, 473, 529, 604, 660, 704, 779, 835, 891, 935, 1015], 81) := by decide +kernel
theorem d_Lw_law_120 : decode code 120 = .ok (.aload_n 1, 1) := by decide +kernel
theorem d_Lw_law_121 : decode code 121 = .ok (.aload_n 3, 1) := by decide +kernel
theorem d_Lw_law_122 : decode code 122 = .ok (.invokestatic 71, 3) := by decide +kernel
theorem d_Lw_law_125 : decode code 125 = .ok (.istore 5, 2) := by decide +kernel
theorem d_Lw_law_127 : decode code 127 = .ok (.aload_n 2, 1) := by decide +kernel
theorem d_Lw_law_128 : decode code 128 = .ok (.invokevirtual 76, 3) := by decide +kernel
theorem d_Lw_law_131 : decode code 131 = .ok (.istore 6, 2) := by decide +kernel
theorem d_Lw_law_133 : decode code 133 = .ok (.aload_n 2, 1) := by decide +kernel
theorem d_Lw_law_134 : decode code 134 = .ok (.invokevirtual 77, 3) := by decide +kernel
theorem d_Lw_law_137 : decode code 137 = .ok (.iload 5, 2) := by decide +kernel
theorem d_Lw_law_139 : decode code 139 = .ok (.if_icmp .eq 5, 3) := by decide +kernel
theorem d_Lw_law_142 : decode code 142 = .ok (.iconst 0, 1) := by decide +kernel
theorem d_Lw_law_143 : decode code 143 = .ok (.ireturn, 1) := by decide +kernel
theorem d_Lw_law_144 : decode code 144 = .ok (.iload 5, 2) := by decide +kernel
theorem d_Lw_law_146 : decode code 146 = .ok (.ifCond .ne 15, 3) := by decide +kernel
theorem d_Lw_law_149 : decode code 149 = .ok (.aload_n 3, 1) := by decide +kernel
theorem d_Lw_law_150 : decode code 150 = .ok (.iconst 0, 1) := by decide +kernel
theorem d_Lw_law_151 : decode code 151 = .ok (.laload, 1) := by decide +kernel
theorem d_Lw_law_152 : decode code 152 = .ok (.iload 6, 2) := by decide +kernel
theorem d_Lw_law_154 : decode code 154 = .ok (.i2l, 1) := by decide +kernel
theorem d_Lw_law_155 : decode code 155 = .ok (.lcmp, 1) := by decide +kernel
theorem d_Lw_law_156 : decode code 156 = .ok (.ifCond .eq 5, 3) := by decide +kernel
theorem d_Lw_law_159 : decode code 159 = .ok (.iconst 0, 1) := by decide +kernel
theorem d_Lw_law_160 : decode code 160 = .ok (.ireturn, 1) := by decide +kernel
theorem d_Lw_law_161 : decode code 161 = .ok (.goto 949, 3) := by decide +kernel
theorem d_Lw_law_164 : decode code 164 = .ok (.aload_n 1, 1) := by decide +kernel
theorem d_Lw_law_165 : decode code 165 = .ok (.aload_n 0, 1) := by decide +kernel
theorem d_Lw_law_166 : decode code 166 = .ok (.iload 4, 2) := by decide +kernel
theorem d_Lw_law_168 : decode code 168 = .ok (.iconst 1, 1) := by decide +kernel
theorem d_Lw_law_169 : decode code 169 = .ok (.iadd, 1) := by decide +kernel
theorem d_Lw_law_170 : decode code 170 = .ok (.iaload, 1) := by decide +kernel
theorem d_Lw_law_171 : decode code 171 = .ok (.aload_n 0, 1) := by decide +kernel
theorem d_Lw_law_172 : decode code 172 = .ok (.iload 4, 2) := by decide +kernel
theorem d_Lw_law_174 : decode code 174 = .ok (.iconst 2, 1) := by decide +kernel
theorem d_Lw_law_175 : decode code 175 = .ok (.iadd, 1) := by decide +kernel

theorem d_Lw_law_176 : decode code 176 = .ok (.iaload, 1) := by decide +kernel
theorem d_Lw_law_177 : decode code 177 = .ok (.aload_n 0, 1) := by decide +kernel
theorem d_Lw_law_178 : decode code 178 = .ok (.iload 4, 2) := by decide +kernel
theorem d_Lw_law_180 : decode code 180 = .ok (.iconst 3, 1) := by decide +kernel
theorem d_Lw_law_181 : decode code 181 = .ok (.iadd, 1) := by decide +kernel
theorem d_Lw_law_182 : decode code 182 = .ok (.iaload, 1) := by decide +kernel
theorem d_Lw_law_183 : decode code 183 = .ok (.aload_n 3, 1) := by decide +kernel
theorem d_Lw_law_184 : decode code 184 = .ok (.invokestatic 80, 3) := by decide +kernel
theorem d_Lw_law_187 : decode code 187 = .ok (.istore 5, 2) := by decide +kernel
theorem d_Lw_law_189 : decode code 189 = .ok (.aload_n 2, 1) := by decide +kernel
theorem d_Lw_law_190 : decode code 190 = .ok (.aload_n 0, 1) := by decide +kernel
theorem d_Lw_law_191 : decode code 191 = .ok (.iload 4, 2) := by decide +kernel
theorem d_Lw_law_193 : decode code 193 = .ok (.iconst 1, 1) := by decide +kernel
theorem d_Lw_law_194 : decode code 194 = .ok (.iadd, 1) := by decide +kernel
theorem d_Lw_law_195 : decode code 195 = .ok (.iaload, 1) := by decide +kernel
theorem d_Lw_law_196 : decode code 196 = .ok (.aload_n 0, 1) := by decide +kernel
theorem d_Lw_law_197 : decode code 197 = .ok (.iload 4, 2) := by decide +kernel
theorem d_Lw_law_199 : decode code 199 = .ok (.iconst 2, 1) := by decide +kernel
theorem d_Lw_law_200 : decode code 200 = .ok (.iadd, 1) := by decide +kernel
theorem d_Lw_law_201 : decode code 201 = .ok (.iaload, 1) := by decide +kernel
theorem d_Lw_law_202 : decode code 202 = .ok (.aload_n 0, 1) := by decide +kernel
theorem d_Lw_law_203 : decode code 203 = .ok (.iload 4, 2) := by decide +kernel
theorem d_Lw_law_205 : decode code 205 = .ok (.iconst 3, 1) := by decide +kernel
theorem d_Lw_law_206 : decode code 206 = .ok (.iadd, 1) := by decide +kernel
theorem d_Lw_law_207 : decode code 207 = .ok (.iaload, 1) := by decide +kernel
theorem d_Lw_law_208 : decode code 208 = .ok (.invokevirtual 83, 3) := by decide +kernel
theorem d_Lw_law_211 : decode code 211 = .ok (.istore 6, 2) := by decide +kernel
theorem d_Lw_law_213 : decode code 213 = .ok (.aload_n 2, 1) := by decide +kernel
theorem d_Lw_law_214 : decode code 214 = .ok (.invokevirtual 77, 3) := by decide +kernel
theorem d_Lw_law_217 : decode code 217 = .ok (.iload 5, 2) := by decide +kernel
theorem d_Lw_law_219 : decode code 219 = .ok (.if_icmp .eq 5, 3) := by decide +kernel
theorem d_Lw_law_222 : decode code 222 = .ok (.iconst 0, 1) := by decide +kernel
theorem d_Lw_law_223 : decode code 223 = .ok (.ireturn, 1) := by decide +kernel
theorem d_Lw_law_224 : decode code 224 = .ok (.iload 5, 2) := by decide +kernel
theorem d_Lw_law_226 : decode code 226 = .ok (.ifCond .ne 15, 3) := by decide +kernel
theorem d_Lw_law_229 : decode code 229 = .ok (.aload_n 3, 1) := by decide +kernel
theorem d_Lw_law_230 : decode code 230 = .ok (.iconst 0, 1) := by decide +kernel
theorem d_Lw_law_231 : decode code 231 = .ok (.laload, 1) := by decide +kernel
theorem d_Lw_law_232 : decode code 232 = .ok (.iload 6, 2) := by decide +kernel
theorem d_Lw_law_234 : decode code 234 = .ok (.i2l, 1) := by decide +kernel
theorem d_Lw_law_235 : decode code 235 = .ok (.lcmp, 1) := by decide +kernel
theorem d_Lw_law_236 : decode code 236 = .ok (.ifCond .eq 5, 3) := by decide +kernel
theorem d_Lw_law_239 : decode code 239 = .ok (.iconst 0, 1) := by decide +kernel
theorem d_Lw_law_240 : decode code 240 = .ok (.ireturn, 1) := by decide +kernel
theorem d_Lw_law_241 : decode code 241 = .ok (.goto 869, 3) := by decide +kernel
theorem d_Lw_law_244 : decode code 244 = .ok (.aload_n 1, 1) := by decide +kernel
theorem d_Lw_law_245 : decode code 245 = .ok (.aload_n 0, 1) := by decide +kernel
theorem d_Lw_law_246 : decode code 246 = .ok (.iload 4, 2) := by decide +kernel
theorem d_Lw_law_248 : decode code 248 = .ok (.iconst 1, 1) := by decide +kernel
theorem d_Lw_law_249 : decode code 249 = .ok (.iadd, 1) := by decide +kernel
theorem d_Lw_law_250 : decode code 250 = .ok (.iaload, 1) := by decide +kernel
theorem d_Lw_law_251 : decode code 251 = .ok (.aload_n 3, 1) := by decide +kernel
theorem d_Lw_law_252 : decode code 252 = .ok (.invokestatic 84, 3) := by decide +kernel
theorem d_Lw_law_255 : decode code 255 = .ok (.istore 5, 2) := by decide +kernel
theorem d_Lw_law_257 : decode code 257 = .ok (.aload_n 2, 1) := by decide +kernel
theorem d_Lw_law_258 : decode code 258 = .ok (.aload_n 0, 1) := by decide +kernel
theorem d_Lw_law_259 : decode code 259 = .ok (.iload 4, 2) := by decide +kernel
theorem d_Lw_law_261 : decode code 261 = .ok (.iconst 1, 1) := by decide +kernel
theorem d_Lw_law_262 : decode code 262 = .ok (.iadd, 1) := by decide +kernel
theorem d_Lw_law_263 : decode code 263 = .ok (.iaload, 1) := by decide +kernel

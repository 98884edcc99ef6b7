theorem d_Lw_law_264 : decode code 264 = .ok (.invokevirtual 87, 3) := by decide +kernel
theorem d_Lw_law_267 : decode code 267 = .ok (.istore 6, 2) := by decide +kernel
theorem d_Lw_law_269 : decode code 269 = .ok (.aload_n 2, 1) := by decide +kernel
theorem d_Lw_law_270 : decode code 270 = .ok (.invokevirtual 77, 3) := by decide +kernel
theorem d_Lw_law_273 : decode code 273 = .ok (.iload 5, 2) := by decide +kernel
theorem d_Lw_law_275 : decode code 275 = .ok (.if_icmp .eq 5, 3) := by decide +kernel
theorem d_Lw_law_278 : decode code 278 = .ok (.iconst 0, 1) := by decide +kernel
theorem d_Lw_law_279 : decode code 279 = .ok (.ireturn, 1) := by decide +kernel
theorem d_Lw_law_280 : decode code 280 = .ok (.iload 5, 2) := by decide +kernel
theorem d_Lw_law_282 : decode code 282 = .ok (.ifCond .ne 15, 3) := by decide +kernel
theorem d_Lw_law_285 : decode code 285 = .ok (.aload_n 3, 1) := by decide +kernel
theorem d_Lw_law_286 : decode code 286 = .ok (.iconst 0, 1) := by decide +kernel
theorem d_Lw_law_287 : decode code 287 = .ok (.laload, 1) := by decide +kernel
theorem d_Lw_law_288 : decode code 288 = .ok (.iload 6, 2) := by decide +kernel
theorem d_Lw_law_290 : decode code 290 = .ok (.i2l, 1) := by decide +kernel
theorem d_Lw_law_291 : decode code 291 = .ok (.lcmp, 1) := by decide +kernel
theorem d_Lw_law_292 : decode code 292 = .ok (.ifCond .eq 5, 3) := by decide +kernel
theorem d_Lw_law_295 : decode code 295 = .ok (.iconst 0, 1) := by decide +kernel
theorem d_Lw_law_296 : decode code 296 = .ok (.ireturn, 1) := by decide +kernel
theorem d_Lw_law_297 : decode code 297 = .ok (.goto 813, 3) := by decide +kernel
theorem d_Lw_law_300 : decode code 300 = .ok (.aload_n 1, 1) := by decide +kernel
theorem d_Lw_law_301 : decode code 301 = .ok (.aload_n 0, 1) := by decide +kernel
theorem d_Lw_law_302 : decode code 302 = .ok (.iload 4, 2) := by decide +kernel
theorem d_Lw_law_304 : decode code 304 = .ok (.iconst 1, 1) := by decide +kernel
theorem d_Lw_law_305 : decode code 305 = .ok (.iadd, 1) := by decide +kernel
theorem d_Lw_law_306 : decode code 306 = .ok (.iaload, 1) := by decide +kernel
theorem d_Lw_law_307 : decode code 307 = .ok (.aload_n 3, 1) := by decide +kernel
theorem d_Lw_law_308 : decode code 308 = .ok (.invokestatic 88, 3) := by decide +kernel
theorem d_Lw_law_311 : decode code 311 = .ok (.istore 5, 2) := by decide +kernel
theorem d_Lw_law_313 : decode code 313 = .ok (.aload_n 2, 1) := by decide +kernel
theorem d_Lw_law_314 : decode code 314 = .ok (.aload_n 0, 1) := by decide +kernel
theorem d_Lw_law_315 : decode code 315 = .ok (.iload 4, 2) := by decide +kernel
theorem d_Lw_law_317 : decode code 317 = .ok (.iconst 1, 1) := by decide +kernel
theorem d_Lw_law_318 : decode code 318 = .ok (.iadd, 1) := by decide +kernel
theorem d_Lw_law_319 : decode code 319 = .ok (.iaload, 1) := by decide +kernel
theorem d_Lw_law_320 : decode code 320 = .ok (.invokevirtual 90, 3) := by decide +kernel
theorem d_Lw_law_323 : decode code 323 = .ok (.istore 6, 2) := by decide +kernel
theorem d_Lw_law_325 : decode code 325 = .ok (.aload_n 2, 1) := by decide +kernel
theorem d_Lw_law_326 : decode code 326 = .ok (.invokevirtual 77, 3) := by decide +kernel
theorem d_Lw_law_329 : decode code 329 = .ok (.iload 5, 2) := by decide +kernel
theorem d_Lw_law_331 : decode code 331 = .ok (.if_icmp .eq 5, 3) := by decide +kernel
theorem d_Lw_law_334 : decode code 334 = .ok (.iconst 0, 1) := by decide +kernel
theorem d_Lw_law_335 : decode code 335 = .ok (.ireturn, 1) := by decide +kernel
theorem d_Lw_law_336 : decode code 336 = .ok (.iload 5, 2) := by decide +kernel
theorem d_Lw_law_338 : decode code 338 = .ok (.ifCond .ne 22, 3) := by decide +kernel
theorem d_Lw_law_341 : decode code 341 = .ok (.aload_n 3, 1) := by decide +kernel
theorem d_Lw_law_342 : decode code 342 = .ok (.iconst 0, 1) := by decide +kernel
theorem d_Lw_law_343 : decode code 343 = .ok (.laload, 1) := by decide +kernel
theorem d_Lw_law_344 : decode code 344 = .ok (.iload 6, 2) := by decide +kernel
theorem d_Lw_law_346 : decode code 346 = .ok (.ifCond .eq 7, 3) := by decide +kernel
theorem d_Lw_law_349 : decode code 349 = .ok (.lconst 1, 1) := by decide +kernel
theorem d_Lw_law_350 : decode code 350 = .ok (.goto 4, 3) := by decide +kernel
theorem d_Lw_law_353 : decode code 353 = .ok (.lconst 0, 1) := by decide +kernel
theorem d_Lw_law_354 : decode code 354 = .ok (.lcmp, 1) := by decide +kernel
theorem d_Lw_law_355 : decode code 355 = .ok (.ifCond .eq 5, 3) := by decide +kernel
theorem d_Lw_law_358 : decode code 358 = .ok (.iconst 0, 1) := by decide +kernel
theorem d_Lw_law_359 : decode code 359 = .ok (.ireturn, 1) := by decide +kernel
theorem d_Lw_law_360 : decode code 360 = .ok (.goto 750, 3) := by decide +kernel
theorem d_Lw_law_363 : decode code 363 = .ok (.aload_n 1, 1) := by decide +kernel
theorem d_Lw_law_364 : decode code 364 = .ok (.aload_n 0, 1) := by decide +kernel

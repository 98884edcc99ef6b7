theorem d_Lw_law_365 : decode code 365 = .ok (.iload 4, 2) := by decide +kernel
theorem d_Lw_law_367 : decode code 367 = .ok (.iconst 1, 1) := by decide +kernel
theorem d_Lw_law_368 : decode code 368 = .ok (.iadd, 1) := by decide +kernel
theorem d_Lw_law_369 : decode code 369 = .ok (.iaload, 1) := by decide +kernel
theorem d_Lw_law_370 : decode code 370 = .ok (.aload_n 0, 1) := by decide +kernel
theorem d_Lw_law_371 : decode code 371 = .ok (.iload 4, 2) := by decide +kernel
theorem d_Lw_law_373 : decode code 373 = .ok (.iconst 2, 1) := by decide +kernel
theorem d_Lw_law_374 : decode code 374 = .ok (.iadd, 1) := by decide +kernel
theorem d_Lw_law_375 : decode code 375 = .ok (.iaload, 1) := by decide +kernel
theorem d_Lw_law_376 : decode code 376 = .ok (.aload_n 3, 1) := by decide +kernel
theorem d_Lw_law_377 : decode code 377 = .ok (.invokestatic 91, 3) := by decide +kernel
theorem d_Lw_law_380 : decode code 380 = .ok (.istore 5, 2) := by decide +kernel
theorem d_Lw_law_382 : decode code 382 = .ok (.aload_n 2, 1) := by decide +kernel
theorem d_Lw_law_383 : decode code 383 = .ok (.aload_n 0, 1) := by decide +kernel
theorem d_Lw_law_384 : decode code 384 = .ok (.iload 4, 2) := by decide +kernel
theorem d_Lw_law_386 : decode code 386 = .ok (.iconst 1, 1) := by decide +kernel
theorem d_Lw_law_387 : decode code 387 = .ok (.iadd, 1) := by decide +kernel
theorem d_Lw_law_388 : decode code 388 = .ok (.iaload, 1) := by decide +kernel
theorem d_Lw_law_389 : decode code 389 = .ok (.aload_n 0, 1) := by decide +kernel
theorem d_Lw_law_390 : decode code 390 = .ok (.iload 4, 2) := by decide +kernel
theorem d_Lw_law_392 : decode code 392 = .ok (.iconst 2, 1) := by decide +kernel
theorem d_Lw_law_393 : decode code 393 = .ok (.iadd, 1) := by decide +kernel
theorem d_Lw_law_394 : decode code 394 = .ok (.iaload, 1) := by decide +kernel
theorem d_Lw_law_395 : decode code 395 = .ok (.invokevirtual 94, 3) := by decide +kernel
theorem d_Lw_law_398 : decode code 398 = .ok (.istore 6, 2) := by decide +kernel
theorem d_Lw_law_400 : decode code 400 = .ok (.aload_n 2, 1) := by decide +kernel
theorem d_Lw_law_401 : decode code 401 = .ok (.invokevirtual 77, 3) := by decide +kernel
theorem d_Lw_law_404 : decode code 404 = .ok (.iload 5, 2) := by decide +kernel
theorem d_Lw_law_406 : decode code 406 = .ok (.if_icmp .eq 5, 3) := by decide +kernel
theorem d_Lw_law_409 : decode code 409 = .ok (.iconst 0, 1) := by decide +kernel
theorem d_Lw_law_410 : decode code 410 = .ok (.ireturn, 1) := by decide +kernel
theorem d_Lw_law_411 : decode code 411 = .ok (.iload 5, 2) := by decide +kernel
theorem d_Lw_law_413 : decode code 413 = .ok (.ifCond .ne 15, 3) := by decide +kernel
theorem d_Lw_law_416 : decode code 416 = .ok (.aload_n 3, 1) := by decide +kernel
theorem d_Lw_law_417 : decode code 417 = .ok (.iconst 0, 1) := by decide +kernel
theorem d_Lw_law_418 : decode code 418 = .ok (.laload, 1) := by decide +kernel
theorem d_Lw_law_419 : decode code 419 = .ok (.iload 6, 2) := by decide +kernel
theorem d_Lw_law_421 : decode code 421 = .ok (.i2l, 1) := by decide +kernel
theorem d_Lw_law_422 : decode code 422 = .ok (.lcmp, 1) := by decide +kernel
theorem d_Lw_law_423 : decode code 423 = .ok (.ifCond .eq 5, 3) := by decide +kernel
theorem d_Lw_law_426 : decode code 426 = .ok (.iconst 0, 1) := by decide +kernel
theorem d_Lw_law_427 : decode code 427 = .ok (.ireturn, 1) := by decide +kernel
theorem d_Lw_law_428 : decode code 428 = .ok (.goto 682, 3) := by decide +kernel
theorem d_Lw_law_431 : decode code 431 = .ok (.aload_n 1, 1) := by decide +kernel
theorem d_Lw_law_432 : decode code 432 = .ok (.invokevirtual 95, 3) := by decide +kernel
theorem d_Lw_law_435 : decode code 435 = .ok (.aload_n 2, 1) := by decide +kernel
theorem d_Lw_law_436 : decode code 436 = .ok (.invokevirtual 98, 3) := by decide +kernel
theorem d_Lw_law_439 : decode code 439 = .ok (.if_icmp .eq 671, 3) := by decide +kernel
theorem d_Lw_law_442 : decode code 442 = .ok (.iconst 0, 1) := by decide +kernel
theorem d_Lw_law_443 : decode code 443 = .ok (.ireturn, 1) := by decide +kernel
theorem d_Lw_law_444 : decode code 444 = .ok (.aload_n 1, 1) := by decide +kernel
theorem d_Lw_law_445 : decode code 445 = .ok (.aload_n 0, 1) := by decide +kernel
theorem d_Lw_law_446 : decode code 446 = .ok (.iload 4, 2) := by decide +kernel
theorem d_Lw_law_448 : decode code 448 = .ok (.iconst 1, 1) := by decide +kernel
theorem d_Lw_law_449 : decode code 449 = .ok (.iadd, 1) := by decide +kernel
theorem d_Lw_law_450 : decode code 450 = .ok (.iaload, 1) := by decide +kernel
theorem d_Lw_law_451 : decode code 451 = .ok (.aload_n 0, 1) := by decide +kernel
theorem d_Lw_law_452 : decode code 452 = .ok (.iload 4, 2) := by decide +kernel
theorem d_Lw_law_454 : decode code 454 = .ok (.iconst 2, 1) := by decide +kernel
theorem d_Lw_law_455 : decode code 455 = .ok (.iadd, 1) := by decide +kernel

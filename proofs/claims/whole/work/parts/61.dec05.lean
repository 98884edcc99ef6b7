theorem d_Lw_law_456 : decode code 456 = .ok (.iaload, 1) := by decide +kernel
theorem d_Lw_law_457 : decode code 457 = .ok (.aload_n 3, 1) := by decide +kernel
theorem d_Lw_law_458 : decode code 458 = .ok (.invokestatic 99, 3) := by decide +kernel
theorem d_Lw_law_461 : decode code 461 = .ok (.istore 5, 2) := by decide +kernel
theorem d_Lw_law_463 : decode code 463 = .ok (.aload_n 2, 1) := by decide +kernel
theorem d_Lw_law_464 : decode code 464 = .ok (.aload_n 0, 1) := by decide +kernel
theorem d_Lw_law_465 : decode code 465 = .ok (.iload 4, 2) := by decide +kernel
theorem d_Lw_law_467 : decode code 467 = .ok (.iconst 1, 1) := by decide +kernel
theorem d_Lw_law_468 : decode code 468 = .ok (.iadd, 1) := by decide +kernel
theorem d_Lw_law_469 : decode code 469 = .ok (.iaload, 1) := by decide +kernel
theorem d_Lw_law_470 : decode code 470 = .ok (.aload_n 0, 1) := by decide +kernel
theorem d_Lw_law_471 : decode code 471 = .ok (.iload 4, 2) := by decide +kernel
theorem d_Lw_law_473 : decode code 473 = .ok (.iconst 2, 1) := by decide +kernel
theorem d_Lw_law_474 : decode code 474 = .ok (.iadd, 1) := by decide +kernel
theorem d_Lw_law_475 : decode code 475 = .ok (.iaload, 1) := by decide +kernel
theorem d_Lw_law_476 : decode code 476 = .ok (.invokevirtual 101, 3) := by decide +kernel
theorem d_Lw_law_479 : decode code 479 = .ok (.istore 6, 2) := by decide +kernel
theorem d_Lw_law_481 : decode code 481 = .ok (.aload_n 2, 1) := by decide +kernel
theorem d_Lw_law_482 : decode code 482 = .ok (.invokevirtual 77, 3) := by decide +kernel
theorem d_Lw_law_485 : decode code 485 = .ok (.iload 5, 2) := by decide +kernel
theorem d_Lw_law_487 : decode code 487 = .ok (.if_icmp .eq 5, 3) := by decide +kernel
theorem d_Lw_law_490 : decode code 490 = .ok (.iconst 0, 1) := by decide +kernel
theorem d_Lw_law_491 : decode code 491 = .ok (.ireturn, 1) := by decide +kernel
theorem d_Lw_law_492 : decode code 492 = .ok (.iload 5, 2) := by decide +kernel
theorem d_Lw_law_494 : decode code 494 = .ok (.ifCond .ne 15, 3) := by decide +kernel
theorem d_Lw_law_497 : decode code 497 = .ok (.aload_n 3, 1) := by decide +kernel
theorem d_Lw_law_498 : decode code 498 = .ok (.iconst 0, 1) := by decide +kernel
theorem d_Lw_law_499 : decode code 499 = .ok (.laload, 1) := by decide +kernel
theorem d_Lw_law_500 : decode code 500 = .ok (.iload 6, 2) := by decide +kernel
theorem d_Lw_law_502 : decode code 502 = .ok (.i2l, 1) := by decide +kernel
theorem d_Lw_law_503 : decode code 503 = .ok (.lcmp, 1) := by decide +kernel
theorem d_Lw_law_504 : decode code 504 = .ok (.ifCond .eq 5, 3) := by decide +kernel
theorem d_Lw_law_507 : decode code 507 = .ok (.iconst 0, 1) := by decide +kernel
theorem d_Lw_law_508 : decode code 508 = .ok (.ireturn, 1) := by decide +kernel
theorem d_Lw_law_509 : decode code 509 = .ok (.goto 601, 3) := by decide +kernel
theorem d_Lw_law_512 : decode code 512 = .ok (.aload_n 1, 1) := by decide +kernel
theorem d_Lw_law_513 : decode code 513 = .ok (.aload_n 0, 1) := by decide +kernel
theorem d_Lw_law_514 : decode code 514 = .ok (.iload 4, 2) := by decide +kernel
theorem d_Lw_law_516 : decode code 516 = .ok (.iconst 1, 1) := by decide +kernel
theorem d_Lw_law_517 : decode code 517 = .ok (.iadd, 1) := by decide +kernel
theorem d_Lw_law_518 : decode code 518 = .ok (.iaload, 1) := by decide +kernel
theorem d_Lw_law_519 : decode code 519 = .ok (.aload_n 3, 1) := by decide +kernel
theorem d_Lw_law_520 : decode code 520 = .ok (.invokestatic 102, 3) := by decide +kernel
theorem d_Lw_law_523 : decode code 523 = .ok (.istore 5, 2) := by decide +kernel
theorem d_Lw_law_525 : decode code 525 = .ok (.aload_n 2, 1) := by decide +kernel
theorem d_Lw_law_526 : decode code 526 = .ok (.aload_n 0, 1) := by decide +kernel
theorem d_Lw_law_527 : decode code 527 = .ok (.iload 4, 2) := by decide +kernel
theorem d_Lw_law_529 : decode code 529 = .ok (.iconst 1, 1) := by decide +kernel
theorem d_Lw_law_530 : decode code 530 = .ok (.iadd, 1) := by decide +kernel
theorem d_Lw_law_531 : decode code 531 = .ok (.iaload, 1) := by decide +kernel
theorem d_Lw_law_532 : decode code 532 = .ok (.invokevirtual 104, 3) := by decide +kernel
theorem d_Lw_law_535 : decode code 535 = .ok (.istore 6, 2) := by decide +kernel
theorem d_Lw_law_537 : decode code 537 = .ok (.aload_n 2, 1) := by decide +kernel
theorem d_Lw_law_538 : decode code 538 = .ok (.invokevirtual 77, 3) := by decide +kernel
theorem d_Lw_law_541 : decode code 541 = .ok (.iload 5, 2) := by decide +kernel
theorem d_Lw_law_543 : decode code 543 = .ok (.if_icmp .eq 5, 3) := by decide +kernel
theorem d_Lw_law_546 : decode code 546 = .ok (.iconst 0, 1) := by decide +kernel
theorem d_Lw_law_547 : decode code 547 = .ok (.ireturn, 1) := by decide +kernel
theorem d_Lw_law_548 : decode code 548 = .ok (.iload 5, 2) := by decide +kernel
theorem d_Lw_law_550 : decode code 550 = .ok (.ifCond .ne 15, 3) := by decide +kernel

theorem d_L_law_443 : decode b_L_law 443 = .ok (.iaload, 1) := by decide +kernel
theorem d_L_law_444 : decode b_L_law 444 = .ok (.ifCond .eq 7, 3) := by decide +kernel
theorem d_L_law_447 : decode b_L_law 447 = .ok (.iconst 1, 1) := by decide +kernel
theorem d_L_law_448 : decode b_L_law 448 = .ok (.goto 4, 3) := by decide +kernel
theorem d_L_law_451 : decode b_L_law 451 = .ok (.iconst 0, 1) := by decide +kernel
theorem d_L_law_452 : decode b_L_law 452 = .ok (.aload_n 3, 1) := by decide +kernel
theorem d_L_law_453 : decode b_L_law 453 = .ok (.invokestatic 80, 3) := by decide +kernel
theorem d_L_law_456 : decode b_L_law 456 = .ok (.istore 5, 2) := by decide +kernel
theorem d_L_law_458 : decode b_L_law 458 = .ok (.aload_n 2, 1) := by decide +kernel
theorem d_L_law_459 : decode b_L_law 459 = .ok (.aload_n 0, 1) := by decide +kernel
theorem d_L_law_460 : decode b_L_law 460 = .ok (.iload 4, 2) := by decide +kernel
theorem d_L_law_462 : decode b_L_law 462 = .ok (.iconst 1, 1) := by decide +kernel
theorem d_L_law_463 : decode b_L_law 463 = .ok (.iadd, 1) := by decide +kernel
theorem d_L_law_464 : decode b_L_law 464 = .ok (.iaload, 1) := by decide +kernel
theorem d_L_law_465 : decode b_L_law 465 = .ok (.aload_n 0, 1) := by decide +kernel
theorem d_L_law_466 : decode b_L_law 466 = .ok (.iload 4, 2) := by decide +kernel
theorem d_L_law_468 : decode b_L_law 468 = .ok (.iconst 2, 1) := by decide +kernel
theorem d_L_law_469 : decode b_L_law 469 = .ok (.iadd, 1) := by decide +kernel
theorem d_L_law_470 : decode b_L_law 470 = .ok (.iaload, 1) := by decide +kernel
theorem d_L_law_471 : decode b_L_law 471 = .ok (.aload_n 0, 1) := by decide +kernel
theorem d_L_law_472 : decode b_L_law 472 = .ok (.iload 4, 2) := by decide +kernel
theorem d_L_law_474 : decode b_L_law 474 = .ok (.iconst 3, 1) := by decide +kernel
theorem d_L_law_475 : decode b_L_law 475 = .ok (.iadd, 1) := by decide +kernel
theorem d_L_law_476 : decode b_L_law 476 = .ok (.iaload, 1) := by decide +kernel
theorem d_L_law_477 : decode b_L_law 477 = .ok (.ifCond .eq 7, 3) := by decide +kernel
theorem d_L_law_480 : decode b_L_law 480 = .ok (.iconst 1, 1) := by decide +kernel
theorem d_L_law_481 : decode b_L_law 481 = .ok (.goto 4, 3) := by decide +kernel
theorem d_L_law_484 : decode b_L_law 484 = .ok (.iconst 0, 1) := by decide +kernel
theorem d_L_law_485 : decode b_L_law 485 = .ok (.invokevirtual 83, 3) := by decide +kernel
theorem d_L_law_488 : decode b_L_law 488 = .ok (.istore 6, 2) := by decide +kernel
theorem d_L_law_490 : decode b_L_law 490 = .ok (.aload_n 2, 1) := by decide +kernel
theorem d_L_law_491 : decode b_L_law 491 = .ok (.invokevirtual 68, 3) := by decide +kernel
theorem d_L_law_494 : decode b_L_law 494 = .ok (.iload 5, 2) := by decide +kernel
theorem d_L_law_496 : decode b_L_law 496 = .ok (.if_icmp .eq 5, 3) := by decide +kernel
theorem d_L_law_499 : decode b_L_law 499 = .ok (.iconst 0, 1) := by decide +kernel
theorem d_L_law_500 : decode b_L_law 500 = .ok (.ireturn, 1) := by decide +kernel
theorem d_L_law_501 : decode b_L_law 501 = .ok (.iload 5, 2) := by decide +kernel
theorem d_L_law_503 : decode b_L_law 503 = .ok (.ifCond .ne 15, 3) := by decide +kernel
theorem d_L_law_506 : decode b_L_law 506 = .ok (.aload_n 3, 1) := by decide +kernel
theorem d_L_law_507 : decode b_L_law 507 = .ok (.iconst 0, 1) := by decide +kernel
theorem d_L_law_508 : decode b_L_law 508 = .ok (.laload, 1) := by decide +kernel
theorem d_L_law_509 : decode b_L_law 509 = .ok (.iload 6, 2) := by decide +kernel
theorem d_L_law_511 : decode b_L_law 511 = .ok (.i2l, 1) := by decide +kernel
theorem d_L_law_512 : decode b_L_law 512 = .ok (.lcmp, 1) := by decide +kernel
theorem d_L_law_513 : decode b_L_law 513 = .ok (.ifCond .eq 5, 3) := by decide +kernel
theorem d_L_law_516 : decode b_L_law 516 = .ok (.iconst 0, 1) := by decide +kernel
theorem d_L_law_517 : decode b_L_law 517 = .ok (.ireturn, 1) := by decide +kernel
theorem d_L_law_518 : decode b_L_law 518 = .ok (.goto 704, 3) := by decide +kernel
theorem d_L_law_521 : decode b_L_law 521 = .ok (.aload_n 1, 1) := by decide +kernel
theorem d_L_law_522 : decode b_L_law 522 = .ok (.aload_n 0, 1) := by decide +kernel

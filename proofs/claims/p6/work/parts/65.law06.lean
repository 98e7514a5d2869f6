theorem d_L_law_441 : decode b_L_law 441 = .ok (.iconst 1, 1) := by decide +kernel
theorem d_L_law_442 : decode b_L_law 442 = .ok (.iadd, 1) := by decide +kernel
theorem d_L_law_443 : decode b_L_law 443 = .ok (.iaload, 1) := by decide +kernel
theorem d_L_law_444 : decode b_L_law 444 = .ok (.invokevirtual 84, 3) := by decide +kernel
theorem d_L_law_447 : decode b_L_law 447 = .ok (.pop, 1) := by decide +kernel
theorem d_L_law_448 : decode b_L_law 448 = .ok (.aload_n 2, 1) := by decide +kernel
theorem d_L_law_449 : decode b_L_law 449 = .ok (.aload_n 0, 1) := by decide +kernel
theorem d_L_law_450 : decode b_L_law 450 = .ok (.iload 4, 2) := by decide +kernel
theorem d_L_law_452 : decode b_L_law 452 = .ok (.iconst 1, 1) := by decide +kernel
theorem d_L_law_453 : decode b_L_law 453 = .ok (.iadd, 1) := by decide +kernel
theorem d_L_law_454 : decode b_L_law 454 = .ok (.iaload, 1) := by decide +kernel
theorem d_L_law_455 : decode b_L_law 455 = .ok (.invokevirtual 88, 3) := by decide +kernel
theorem d_L_law_458 : decode b_L_law 458 = .ok (.pop, 1) := by decide +kernel
theorem d_L_law_459 : decode b_L_law 459 = .ok (.goto 483, 3) := by decide +kernel
theorem d_L_law_462 : decode b_L_law 462 = .ok (.aload_n 1, 1) := by decide +kernel
theorem d_L_law_463 : decode b_L_law 463 = .ok (.aload_n 0, 1) := by decide +kernel
theorem d_L_law_464 : decode b_L_law 464 = .ok (.iload 4, 2) := by decide +kernel
theorem d_L_law_466 : decode b_L_law 466 = .ok (.iconst 1, 1) := by decide +kernel
theorem d_L_law_467 : decode b_L_law 467 = .ok (.iadd, 1) := by decide +kernel
theorem d_L_law_468 : decode b_L_law 468 = .ok (.iaload, 1) := by decide +kernel
theorem d_L_law_469 : decode b_L_law 469 = .ok (.aload_n 0, 1) := by decide +kernel
theorem d_L_law_470 : decode b_L_law 470 = .ok (.iload 4, 2) := by decide +kernel
theorem d_L_law_472 : decode b_L_law 472 = .ok (.iconst 2, 1) := by decide +kernel
theorem d_L_law_473 : decode b_L_law 473 = .ok (.iadd, 1) := by decide +kernel
theorem d_L_law_474 : decode b_L_law 474 = .ok (.iaload, 1) := by decide +kernel
theorem d_L_law_475 : decode b_L_law 475 = .ok (.aload_n 0, 1) := by decide +kernel
theorem d_L_law_476 : decode b_L_law 476 = .ok (.iload 4, 2) := by decide +kernel
theorem d_L_law_478 : decode b_L_law 478 = .ok (.iconst 3, 1) := by decide +kernel
theorem d_L_law_479 : decode b_L_law 479 = .ok (.iadd, 1) := by decide +kernel
theorem d_L_law_480 : decode b_L_law 480 = .ok (.iaload, 1) := by decide +kernel
theorem d_L_law_481 : decode b_L_law 481 = .ok (.aload_n 0, 1) := by decide +kernel
theorem d_L_law_482 : decode b_L_law 482 = .ok (.iload 4, 2) := by decide +kernel
theorem d_L_law_484 : decode b_L_law 484 = .ok (.iconst 4, 1) := by decide +kernel
theorem d_L_law_485 : decode b_L_law 485 = .ok (.iadd, 1) := by decide +kernel
theorem d_L_law_486 : decode b_L_law 486 = .ok (.iaload, 1) := by decide +kernel
theorem d_L_law_487 : decode b_L_law 487 = .ok (.aload_n 3, 1) := by decide +kernel
theorem d_L_law_488 : decode b_L_law 488 = .ok (.invokestatic 89, 3) := by decide +kernel
theorem d_L_law_491 : decode b_L_law 491 = .ok (.istore 5, 2) := by decide +kernel
theorem d_L_law_493 : decode b_L_law 493 = .ok (.aload_n 2, 1) := by decide +kernel
theorem d_L_law_494 : decode b_L_law 494 = .ok (.aload_n 0, 1) := by decide +kernel
theorem d_L_law_495 : decode b_L_law 495 = .ok (.iload 4, 2) := by decide +kernel
theorem d_L_law_497 : decode b_L_law 497 = .ok (.iconst 1, 1) := by decide +kernel
theorem d_L_law_498 : decode b_L_law 498 = .ok (.iadd, 1) := by decide +kernel
theorem d_L_law_499 : decode b_L_law 499 = .ok (.iaload, 1) := by decide +kernel
theorem d_L_law_500 : decode b_L_law 500 = .ok (.aload_n 0, 1) := by decide +kernel
theorem d_L_law_501 : decode b_L_law 501 = .ok (.iload 4, 2) := by decide +kernel
theorem d_L_law_503 : decode b_L_law 503 = .ok (.iconst 2, 1) := by decide +kernel
theorem d_L_law_504 : decode b_L_law 504 = .ok (.iadd, 1) := by decide +kernel
theorem d_L_law_505 : decode b_L_law 505 = .ok (.iaload, 1) := by decide +kernel
theorem d_L_law_506 : decode b_L_law 506 = .ok (.aload_n 0, 1) := by decide +kernel

theorem d_L_law_360 : decode b_L_law 360 = .ok (.ifCond .eq 7, 3) := by decide +kernel
theorem d_L_law_363 : decode b_L_law 363 = .ok (.iconst 1, 1) := by decide +kernel
theorem d_L_law_364 : decode b_L_law 364 = .ok (.goto 4, 3) := by decide +kernel
theorem d_L_law_367 : decode b_L_law 367 = .ok (.iconst 0, 1) := by decide +kernel
theorem d_L_law_368 : decode b_L_law 368 = .ok (.aload_n 3, 1) := by decide +kernel
theorem d_L_law_369 : decode b_L_law 369 = .ok (.invokestatic 76, 3) := by decide +kernel
theorem d_L_law_372 : decode b_L_law 372 = .ok (.istore 5, 2) := by decide +kernel
theorem d_L_law_374 : decode b_L_law 374 = .ok (.aload_n 2, 1) := by decide +kernel
theorem d_L_law_375 : decode b_L_law 375 = .ok (.aload_n 0, 1) := by decide +kernel
theorem d_L_law_376 : decode b_L_law 376 = .ok (.iload 4, 2) := by decide +kernel
theorem d_L_law_378 : decode b_L_law 378 = .ok (.iconst 1, 1) := by decide +kernel
theorem d_L_law_379 : decode b_L_law 379 = .ok (.iadd, 1) := by decide +kernel
theorem d_L_law_380 : decode b_L_law 380 = .ok (.iaload, 1) := by decide +kernel
theorem d_L_law_381 : decode b_L_law 381 = .ok (.aload_n 0, 1) := by decide +kernel
theorem d_L_law_382 : decode b_L_law 382 = .ok (.iload 4, 2) := by decide +kernel
theorem d_L_law_384 : decode b_L_law 384 = .ok (.iconst 2, 1) := by decide +kernel
theorem d_L_law_385 : decode b_L_law 385 = .ok (.iadd, 1) := by decide +kernel
theorem d_L_law_386 : decode b_L_law 386 = .ok (.iaload, 1) := by decide +kernel
theorem d_L_law_387 : decode b_L_law 387 = .ok (.aload_n 0, 1) := by decide +kernel
theorem d_L_law_388 : decode b_L_law 388 = .ok (.iload 4, 2) := by decide +kernel
theorem d_L_law_390 : decode b_L_law 390 = .ok (.iconst 3, 1) := by decide +kernel
theorem d_L_law_391 : decode b_L_law 391 = .ok (.iadd, 1) := by decide +kernel
theorem d_L_law_392 : decode b_L_law 392 = .ok (.iaload, 1) := by decide +kernel
theorem d_L_law_393 : decode b_L_law 393 = .ok (.ifCond .eq 7, 3) := by decide +kernel
theorem d_L_law_396 : decode b_L_law 396 = .ok (.iconst 1, 1) := by decide +kernel
theorem d_L_law_397 : decode b_L_law 397 = .ok (.goto 4, 3) := by decide +kernel
theorem d_L_law_400 : decode b_L_law 400 = .ok (.iconst 0, 1) := by decide +kernel
theorem d_L_law_401 : decode b_L_law 401 = .ok (.invokevirtual 79, 3) := by decide +kernel
theorem d_L_law_404 : decode b_L_law 404 = .ok (.istore 6, 2) := by decide +kernel
theorem d_L_law_406 : decode b_L_law 406 = .ok (.goto 508, 3) := by decide +kernel
theorem d_L_law_409 : decode b_L_law 409 = .ok (.aload_n 1, 1) := by decide +kernel
theorem d_L_law_410 : decode b_L_law 410 = .ok (.aload_n 0, 1) := by decide +kernel
theorem d_L_law_411 : decode b_L_law 411 = .ok (.iload 4, 2) := by decide +kernel
theorem d_L_law_413 : decode b_L_law 413 = .ok (.iconst 1, 1) := by decide +kernel
theorem d_L_law_414 : decode b_L_law 414 = .ok (.iadd, 1) := by decide +kernel
theorem d_L_law_415 : decode b_L_law 415 = .ok (.iaload, 1) := by decide +kernel
theorem d_L_law_416 : decode b_L_law 416 = .ok (.invokevirtual 80, 3) := by decide +kernel
theorem d_L_law_419 : decode b_L_law 419 = .ok (.pop, 1) := by decide +kernel
theorem d_L_law_420 : decode b_L_law 420 = .ok (.aload_n 2, 1) := by decide +kernel
theorem d_L_law_421 : decode b_L_law 421 = .ok (.aload_n 0, 1) := by decide +kernel
theorem d_L_law_422 : decode b_L_law 422 = .ok (.iload 4, 2) := by decide +kernel
theorem d_L_law_424 : decode b_L_law 424 = .ok (.iconst 1, 1) := by decide +kernel
theorem d_L_law_425 : decode b_L_law 425 = .ok (.iadd, 1) := by decide +kernel
theorem d_L_law_426 : decode b_L_law 426 = .ok (.iaload, 1) := by decide +kernel
theorem d_L_law_427 : decode b_L_law 427 = .ok (.invokevirtual 84, 3) := by decide +kernel
theorem d_L_law_430 : decode b_L_law 430 = .ok (.pop, 1) := by decide +kernel
theorem d_L_law_431 : decode b_L_law 431 = .ok (.goto 483, 3) := by decide +kernel
theorem d_L_law_434 : decode b_L_law 434 = .ok (.aload_n 1, 1) := by decide +kernel
theorem d_L_law_435 : decode b_L_law 435 = .ok (.aload_n 0, 1) := by decide +kernel
theorem d_L_law_436 : decode b_L_law 436 = .ok (.iload 4, 2) := by decide +kernel

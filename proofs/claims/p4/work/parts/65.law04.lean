theorem d_L_law_290 : decode b_L_law 290 = .ok (.iconst 4, 1) := by decide +kernel
theorem d_L_law_291 : decode b_L_law 291 = .ok (.iadd, 1) := by decide +kernel
theorem d_L_law_292 : decode b_L_law 292 = .ok (.iaload, 1) := by decide +kernel
theorem d_L_law_293 : decode b_L_law 293 = .ok (.invokevirtual 71, 3) := by decide +kernel
theorem d_L_law_296 : decode b_L_law 296 = .ok (.istore 6, 2) := by decide +kernel
theorem d_L_law_298 : decode b_L_law 298 = .ok (.aload_n 2, 1) := by decide +kernel
theorem d_L_law_299 : decode b_L_law 299 = .ok (.invokevirtual 72, 3) := by decide +kernel
theorem d_L_law_302 : decode b_L_law 302 = .ok (.iload 5, 2) := by decide +kernel
theorem d_L_law_304 : decode b_L_law 304 = .ok (.if_icmp .eq 5, 3) := by decide +kernel
theorem d_L_law_307 : decode b_L_law 307 = .ok (.iconst 0, 1) := by decide +kernel
theorem d_L_law_308 : decode b_L_law 308 = .ok (.ireturn, 1) := by decide +kernel
theorem d_L_law_309 : decode b_L_law 309 = .ok (.iload 5, 2) := by decide +kernel
theorem d_L_law_311 : decode b_L_law 311 = .ok (.ifCond .ne 15, 3) := by decide +kernel
theorem d_L_law_314 : decode b_L_law 314 = .ok (.aload_n 3, 1) := by decide +kernel
theorem d_L_law_315 : decode b_L_law 315 = .ok (.iconst 0, 1) := by decide +kernel
theorem d_L_law_316 : decode b_L_law 316 = .ok (.laload, 1) := by decide +kernel
theorem d_L_law_317 : decode b_L_law 317 = .ok (.iload 6, 2) := by decide +kernel
theorem d_L_law_319 : decode b_L_law 319 = .ok (.i2l, 1) := by decide +kernel
theorem d_L_law_320 : decode b_L_law 320 = .ok (.lcmp, 1) := by decide +kernel
theorem d_L_law_321 : decode b_L_law 321 = .ok (.ifCond .eq 5, 3) := by decide +kernel
theorem d_L_law_324 : decode b_L_law 324 = .ok (.iconst 0, 1) := by decide +kernel
theorem d_L_law_325 : decode b_L_law 325 = .ok (.ireturn, 1) := by decide +kernel
theorem d_L_law_326 : decode b_L_law 326 = .ok (.goto 616, 3) := by decide +kernel
theorem d_L_law_329 : decode b_L_law 329 = .ok (.aload_n 1, 1) := by decide +kernel
theorem d_L_law_330 : decode b_L_law 330 = .ok (.aload_n 0, 1) := by decide +kernel
theorem d_L_law_331 : decode b_L_law 331 = .ok (.iload 4, 2) := by decide +kernel
theorem d_L_law_333 : decode b_L_law 333 = .ok (.iconst 1, 1) := by decide +kernel
theorem d_L_law_334 : decode b_L_law 334 = .ok (.iadd, 1) := by decide +kernel
theorem d_L_law_335 : decode b_L_law 335 = .ok (.iaload, 1) := by decide +kernel
theorem d_L_law_336 : decode b_L_law 336 = .ok (.aload_n 0, 1) := by decide +kernel
theorem d_L_law_337 : decode b_L_law 337 = .ok (.iload 4, 2) := by decide +kernel
theorem d_L_law_339 : decode b_L_law 339 = .ok (.iconst 2, 1) := by decide +kernel
theorem d_L_law_340 : decode b_L_law 340 = .ok (.iadd, 1) := by decide +kernel
theorem d_L_law_341 : decode b_L_law 341 = .ok (.iaload, 1) := by decide +kernel
theorem d_L_law_342 : decode b_L_law 342 = .ok (.aload_n 3, 1) := by decide +kernel
theorem d_L_law_343 : decode b_L_law 343 = .ok (.invokestatic 76, 3) := by decide +kernel
theorem d_L_law_346 : decode b_L_law 346 = .ok (.istore 5, 2) := by decide +kernel
theorem d_L_law_348 : decode b_L_law 348 = .ok (.aload_n 2, 1) := by decide +kernel
theorem d_L_law_349 : decode b_L_law 349 = .ok (.aload_n 0, 1) := by decide +kernel
theorem d_L_law_350 : decode b_L_law 350 = .ok (.iload 4, 2) := by decide +kernel
theorem d_L_law_352 : decode b_L_law 352 = .ok (.iconst 1, 1) := by decide +kernel
theorem d_L_law_353 : decode b_L_law 353 = .ok (.iadd, 1) := by decide +kernel
theorem d_L_law_354 : decode b_L_law 354 = .ok (.iaload, 1) := by decide +kernel
theorem d_L_law_355 : decode b_L_law 355 = .ok (.aload_n 0, 1) := by decide +kernel
theorem d_L_law_356 : decode b_L_law 356 = .ok (.iload 4, 2) := by decide +kernel
theorem d_L_law_358 : decode b_L_law 358 = .ok (.iconst 2, 1) := by decide +kernel
theorem d_L_law_359 : decode b_L_law 359 = .ok (.iadd, 1) := by decide +kernel
theorem d_L_law_360 : decode b_L_law 360 = .ok (.iaload, 1) := by decide +kernel
theorem d_L_law_361 : decode b_L_law 361 = .ok (.invokevirtual 79, 3) := by decide +kernel
theorem d_L_law_364 : decode b_L_law 364 = .ok (.istore 6, 2) := by decide +kernel

theorem d_L_law_297 : decode b_L_law 297 = .ok (.aload_n 0, 1) := by decide +kernel
theorem d_L_law_298 : decode b_L_law 298 = .ok (.iload 4, 2) := by decide +kernel
theorem d_L_law_300 : decode b_L_law 300 = .ok (.iconst 1, 1) := by decide +kernel
theorem d_L_law_301 : decode b_L_law 301 = .ok (.iadd, 1) := by decide +kernel
theorem d_L_law_302 : decode b_L_law 302 = .ok (.iaload, 1) := by decide +kernel
theorem d_L_law_303 : decode b_L_law 303 = .ok (.aload_n 0, 1) := by decide +kernel
theorem d_L_law_304 : decode b_L_law 304 = .ok (.iload 4, 2) := by decide +kernel
theorem d_L_law_306 : decode b_L_law 306 = .ok (.iconst 2, 1) := by decide +kernel
theorem d_L_law_307 : decode b_L_law 307 = .ok (.iadd, 1) := by decide +kernel
theorem d_L_law_308 : decode b_L_law 308 = .ok (.iaload, 1) := by decide +kernel
theorem d_L_law_309 : decode b_L_law 309 = .ok (.aload_n 0, 1) := by decide +kernel
theorem d_L_law_310 : decode b_L_law 310 = .ok (.iload 4, 2) := by decide +kernel
theorem d_L_law_312 : decode b_L_law 312 = .ok (.iconst 3, 1) := by decide +kernel
theorem d_L_law_313 : decode b_L_law 313 = .ok (.iadd, 1) := by decide +kernel
theorem d_L_law_314 : decode b_L_law 314 = .ok (.iaload, 1) := by decide +kernel
theorem d_L_law_315 : decode b_L_law 315 = .ok (.aload_n 0, 1) := by decide +kernel
theorem d_L_law_316 : decode b_L_law 316 = .ok (.iload 4, 2) := by decide +kernel
theorem d_L_law_318 : decode b_L_law 318 = .ok (.iconst 4, 1) := by decide +kernel
theorem d_L_law_319 : decode b_L_law 319 = .ok (.iadd, 1) := by decide +kernel
theorem d_L_law_320 : decode b_L_law 320 = .ok (.iaload, 1) := by decide +kernel
theorem d_L_law_321 : decode b_L_law 321 = .ok (.invokevirtual 75, 3) := by decide +kernel
theorem d_L_law_324 : decode b_L_law 324 = .ok (.istore 6, 2) := by decide +kernel
theorem d_L_law_326 : decode b_L_law 326 = .ok (.aload_n 2, 1) := by decide +kernel
theorem d_L_law_327 : decode b_L_law 327 = .ok (.invokevirtual 68, 3) := by decide +kernel
theorem d_L_law_330 : decode b_L_law 330 = .ok (.iload 5, 2) := by decide +kernel
theorem d_L_law_332 : decode b_L_law 332 = .ok (.if_icmp .eq 5, 3) := by decide +kernel
theorem d_L_law_335 : decode b_L_law 335 = .ok (.iconst 0, 1) := by decide +kernel
theorem d_L_law_336 : decode b_L_law 336 = .ok (.ireturn, 1) := by decide +kernel
theorem d_L_law_337 : decode b_L_law 337 = .ok (.iload 5, 2) := by decide +kernel
theorem d_L_law_339 : decode b_L_law 339 = .ok (.ifCond .ne 15, 3) := by decide +kernel
theorem d_L_law_342 : decode b_L_law 342 = .ok (.aload_n 3, 1) := by decide +kernel
theorem d_L_law_343 : decode b_L_law 343 = .ok (.iconst 0, 1) := by decide +kernel
theorem d_L_law_344 : decode b_L_law 344 = .ok (.laload, 1) := by decide +kernel
theorem d_L_law_345 : decode b_L_law 345 = .ok (.iload 6, 2) := by decide +kernel
theorem d_L_law_347 : decode b_L_law 347 = .ok (.i2l, 1) := by decide +kernel
theorem d_L_law_348 : decode b_L_law 348 = .ok (.lcmp, 1) := by decide +kernel
theorem d_L_law_349 : decode b_L_law 349 = .ok (.ifCond .eq 5, 3) := by decide +kernel
theorem d_L_law_352 : decode b_L_law 352 = .ok (.iconst 0, 1) := by decide +kernel
theorem d_L_law_353 : decode b_L_law 353 = .ok (.ireturn, 1) := by decide +kernel
theorem d_L_law_354 : decode b_L_law 354 = .ok (.goto 868, 3) := by decide +kernel
theorem d_L_law_357 : decode b_L_law 357 = .ok (.aload_n 1, 1) := by decide +kernel
theorem d_L_law_358 : decode b_L_law 358 = .ok (.aload_n 0, 1) := by decide +kernel
theorem d_L_law_359 : decode b_L_law 359 = .ok (.iload 4, 2) := by decide +kernel
theorem d_L_law_361 : decode b_L_law 361 = .ok (.iconst 1, 1) := by decide +kernel
theorem d_L_law_362 : decode b_L_law 362 = .ok (.iadd, 1) := by decide +kernel
theorem d_L_law_363 : decode b_L_law 363 = .ok (.iaload, 1) := by decide +kernel
theorem d_L_law_364 : decode b_L_law 364 = .ok (.aload_n 0, 1) := by decide +kernel
theorem d_L_law_365 : decode b_L_law 365 = .ok (.iload 4, 2) := by decide +kernel
theorem d_L_law_367 : decode b_L_law 367 = .ok (.iconst 2, 1) := by decide +kernel
theorem d_L_law_368 : decode b_L_law 368 = .ok (.iadd, 1) := by decide +kernel

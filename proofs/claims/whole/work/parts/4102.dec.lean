theorem dd_Law_law_304 : decode bb_Law_law 304 = .ok (.iconst 1, 1) := by decide +kernel
theorem dd_Law_law_305 : decode bb_Law_law 305 = .ok (.iadd, 1) := by decide +kernel
theorem dd_Law_law_306 : decode bb_Law_law 306 = .ok (.iaload, 1) := by decide +kernel
theorem dd_Law_law_307 : decode bb_Law_law 307 = .ok (.aload_n 0, 1) := by decide +kernel
theorem dd_Law_law_308 : decode bb_Law_law 308 = .ok (.iload 4, 2) := by decide +kernel
theorem dd_Law_law_310 : decode bb_Law_law 310 = .ok (.iconst 2, 1) := by decide +kernel
theorem dd_Law_law_311 : decode bb_Law_law 311 = .ok (.iadd, 1) := by decide +kernel
theorem dd_Law_law_312 : decode bb_Law_law 312 = .ok (.iaload, 1) := by decide +kernel
theorem dd_Law_law_313 : decode bb_Law_law 313 = .ok (.aload_n 0, 1) := by decide +kernel
theorem dd_Law_law_314 : decode bb_Law_law 314 = .ok (.iload 4, 2) := by decide +kernel
theorem dd_Law_law_316 : decode bb_Law_law 316 = .ok (.iconst 3, 1) := by decide +kernel
theorem dd_Law_law_317 : decode bb_Law_law 317 = .ok (.iadd, 1) := by decide +kernel
theorem dd_Law_law_318 : decode bb_Law_law 318 = .ok (.iaload, 1) := by decide +kernel
theorem dd_Law_law_319 : decode bb_Law_law 319 = .ok (.invokestatic 106, 3) := by decide +kernel
theorem dd_Law_law_322 : decode bb_Law_law 322 = .ok (.istore 5, 2) := by decide +kernel
theorem dd_Law_law_324 : decode bb_Law_law 324 = .ok (.aload_n 2, 1) := by decide +kernel
theorem dd_Law_law_325 : decode bb_Law_law 325 = .ok (.aload_n 0, 1) := by decide +kernel
theorem dd_Law_law_326 : decode bb_Law_law 326 = .ok (.iload 4, 2) := by decide +kernel
theorem dd_Law_law_328 : decode bb_Law_law 328 = .ok (.iconst 1, 1) := by decide +kernel
theorem dd_Law_law_329 : decode bb_Law_law 329 = .ok (.iadd, 1) := by decide +kernel
theorem dd_Law_law_330 : decode bb_Law_law 330 = .ok (.iaload, 1) := by decide +kernel
theorem dd_Law_law_331 : decode bb_Law_law 331 = .ok (.aload_n 0, 1) := by decide +kernel
theorem dd_Law_law_332 : decode bb_Law_law 332 = .ok (.iload 4, 2) := by decide +kernel
theorem dd_Law_law_334 : decode bb_Law_law 334 = .ok (.iconst 2, 1) := by decide +kernel
theorem dd_Law_law_335 : decode bb_Law_law 335 = .ok (.iadd, 1) := by decide +kernel
theorem dd_Law_law_336 : decode bb_Law_law 336 = .ok (.iaload, 1) := by decide +kernel
theorem dd_Law_law_337 : decode bb_Law_law 337 = .ok (.aload_n 0, 1) := by decide +kernel
theorem dd_Law_law_338 : decode bb_Law_law 338 = .ok (.iload 4, 2) := by decide +kernel
theorem dd_Law_law_340 : decode bb_Law_law 340 = .ok (.iconst 3, 1) := by decide +kernel
theorem dd_Law_law_341 : decode bb_Law_law 341 = .ok (.iadd, 1) := by decide +kernel
theorem dd_Law_law_342 : decode bb_Law_law 342 = .ok (.iaload, 1) := by decide +kernel
theorem dd_Law_law_343 : decode bb_Law_law 343 = .ok (.invokevirtual 108, 3) := by decide +kernel
theorem dd_Law_law_346 : decode bb_Law_law 346 = .ok (.aload_n 2, 1) := by decide +kernel
theorem dd_Law_law_347 : decode bb_Law_law 347 = .ok (.invokevirtual 95, 3) := by decide +kernel
theorem dd_Law_law_350 : decode bb_Law_law 350 = .ok (.iload 5, 2) := by decide +kernel
theorem dd_Law_law_352 : decode bb_Law_law 352 = .ok (.if_icmp .eq 5, 3) := by decide +kernel
theorem dd_Law_law_357 : decode bb_Law_law 357 = .ok (.goto 1113, 3) := by decide +kernel
theorem dd_Law_law_355 : decode bb_Law_law 355 = .ok (.iconst 0, 1) := by decide +kernel
theorem dd_Law_law_360 : decode bb_Law_law 360 = .ok (.aload_n 1, 1) := by decide +kernel
theorem dd_Law_law_361 : decode bb_Law_law 361 = .ok (.aload_n 0, 1) := by decide +kernel
theorem dd_Law_law_362 : decode bb_Law_law 362 = .ok (.iload 4, 2) := by decide +kernel
theorem dd_Law_law_364 : decode bb_Law_law 364 = .ok (.iconst 1, 1) := by decide +kernel
theorem dd_Law_law_365 : decode bb_Law_law 365 = .ok (.iadd, 1) := by decide +kernel
theorem dd_Law_law_366 : decode bb_Law_law 366 = .ok (.iaload, 1) := by decide +kernel
theorem dd_Law_law_367 : decode bb_Law_law 367 = .ok (.aload_n 3, 1) := by decide +kernel
theorem dd_Law_law_368 : decode bb_Law_law 368 = .ok (.invokestatic 109, 3) := by decide +kernel
theorem dd_Law_law_371 : decode bb_Law_law 371 = .ok (.istore 5, 2) := by decide +kernel
theorem dd_Law_law_373 : decode bb_Law_law 373 = .ok (.aload_n 2, 1) := by decide +kernel
theorem dd_Law_law_374 : decode bb_Law_law 374 = .ok (.aload_n 0, 1) := by decide +kernel
theorem dd_Law_law_375 : decode bb_Law_law 375 = .ok (.iload 4, 2) := by decide +kernel
theorem dd_Law_law_377 : decode bb_Law_law 377 = .ok (.iconst 1, 1) := by decide +kernel
theorem dd_Law_law_378 : decode bb_Law_law 378 = .ok (.iadd, 1) := by decide +kernel
theorem dd_Law_law_379 : decode bb_Law_law 379 = .ok (.iaload, 1) := by decide +kernel
theorem dd_Law_law_380 : decode bb_Law_law 380 = .ok (.invokevirtual 112, 3) := by decide +kernel
theorem dd_Law_law_383 : decode bb_Law_law 383 = .ok (.istore 6, 2) := by decide +kernel
theorem dd_Law_law_385 : decode bb_Law_law 385 = .ok (.aload_n 2, 1) := by decide +kernel
theorem dd_Law_law_386 : decode bb_Law_law 386 = .ok (.invokevirtual 95, 3) := by decide +kernel
theorem dd_Law_law_389 : decode bb_Law_law 389 = .ok (.iload 5, 2) := by decide +kernel
theorem dd_Law_law_391 : decode bb_Law_law 391 = .ok (.if_icmp .eq 5, 3) := by decide +kernel
theorem dd_Law_law_396 : decode bb_Law_law 396 = .ok (.iload 5, 2) := by decide +kernel

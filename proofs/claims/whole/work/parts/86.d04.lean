theorem d_law_344 : decode code 344 = .ok (.goto 4, 3) := by decide +kernel
theorem d_law_347 : decode code 347 = .ok (.iconst 0, 1) := by decide +kernel
theorem d_law_348 : decode code 348 = .ok (.invokevirtual 49, 3) := by decide +kernel
theorem d_law_351 : decode code 351 = .ok (.if_icmp .eq 248, 3) := by decide +kernel
theorem d_law_354 : decode code 354 = .ok (.iconst 0, 1) := by decide +kernel
theorem d_law_355 : decode code 355 = .ok (.ireturn, 1) := by decide +kernel
theorem d_law_356 : decode code 356 = .ok (.aload_n 1, 1) := by decide +kernel
theorem d_law_357 : decode code 357 = .ok (.invokevirtual 50, 3) := by decide +kernel
theorem d_law_360 : decode code 360 = .ok (.aload_n 2, 1) := by decide +kernel
theorem d_law_361 : decode code 361 = .ok (.invokevirtual 54, 3) := by decide +kernel
theorem d_law_364 : decode code 364 = .ok (.if_icmp .eq 235, 3) := by decide +kernel
theorem d_law_367 : decode code 367 = .ok (.iconst 0, 1) := by decide +kernel
theorem d_law_368 : decode code 368 = .ok (.ireturn, 1) := by decide +kernel
theorem d_law_369 : decode code 369 = .ok (.aload_n 1, 1) := by decide +kernel
theorem d_law_370 : decode code 370 = .ok (.aload_n 0, 1) := by decide +kernel
theorem d_law_371 : decode code 371 = .ok (.iload_n 3, 1) := by decide +kernel
theorem d_law_372 : decode code 372 = .ok (.iconst 1, 1) := by decide +kernel
theorem d_law_373 : decode code 373 = .ok (.iadd, 1) := by decide +kernel
theorem d_law_374 : decode code 374 = .ok (.iaload, 1) := by decide +kernel
theorem d_law_375 : decode code 375 = .ok (.invokevirtual 55, 3) := by decide +kernel
theorem d_law_378 : decode code 378 = .ok (.aload_n 2, 1) := by decide +kernel
theorem d_law_379 : decode code 379 = .ok (.aload_n 0, 1) := by decide +kernel
theorem d_law_380 : decode code 380 = .ok (.iload_n 3, 1) := by decide +kernel
theorem d_law_381 : decode code 381 = .ok (.iconst 1, 1) := by decide +kernel
theorem d_law_382 : decode code 382 = .ok (.iadd, 1) := by decide +kernel
theorem d_law_383 : decode code 383 = .ok (.iaload, 1) := by decide +kernel
theorem d_law_384 : decode code 384 = .ok (.invokevirtual 58, 3) := by decide +kernel
theorem d_law_387 : decode code 387 = .ok (.if_icmp .eq 212, 3) := by decide +kernel
theorem d_law_390 : decode code 390 = .ok (.iconst 0, 1) := by decide +kernel
theorem d_law_391 : decode code 391 = .ok (.ireturn, 1) := by decide +kernel
theorem d_law_392 : decode code 392 = .ok (.aload_n 1, 1) := by decide +kernel
theorem d_law_393 : decode code 393 = .ok (.aload_n 0, 1) := by decide +kernel
theorem d_law_394 : decode code 394 = .ok (.iload_n 3, 1) := by decide +kernel
theorem d_law_395 : decode code 395 = .ok (.iconst 1, 1) := by decide +kernel
theorem d_law_396 : decode code 396 = .ok (.iadd, 1) := by decide +kernel
theorem d_law_397 : decode code 397 = .ok (.iaload, 1) := by decide +kernel
theorem d_law_398 : decode code 398 = .ok (.invokevirtual 59, 3) := by decide +kernel
theorem d_law_401 : decode code 401 = .ok (.aload_n 2, 1) := by decide +kernel
theorem d_law_402 : decode code 402 = .ok (.aload_n 0, 1) := by decide +kernel
theorem d_law_403 : decode code 403 = .ok (.iload_n 3, 1) := by decide +kernel
theorem d_law_404 : decode code 404 = .ok (.iconst 1, 1) := by decide +kernel
theorem d_law_405 : decode code 405 = .ok (.iadd, 1) := by decide +kernel
theorem d_law_406 : decode code 406 = .ok (.iaload, 1) := by decide +kernel
theorem d_law_407 : decode code 407 = .ok (.invokevirtual 62, 3) := by decide +kernel
theorem d_law_410 : decode code 410 = .ok (.if_icmp .eq 189, 3) := by decide +kernel
theorem d_law_413 : decode code 413 = .ok (.iconst 0, 1) := by decide +kernel
theorem d_law_414 : decode code 414 = .ok (.ireturn, 1) := by decide +kernel
theorem d_law_415 : decode code 415 = .ok (.aload_n 1, 1) := by decide +kernel
theorem d_law_416 : decode code 416 = .ok (.aload_n 0, 1) := by decide +kernel
theorem d_law_417 : decode code 417 = .ok (.iload_n 3, 1) := by decide +kernel

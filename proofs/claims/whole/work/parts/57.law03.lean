/-! The law's entry, decoded. -/
theorem d_W_law_336 : decode code 336 = .ok (.iconst 2, 1) := by decide +kernel
theorem d_W_law_337 : decode code 337 = .ok (.iadd, 1) := by decide +kernel
theorem d_W_law_338 : decode code 338 = .ok (.iaload, 1) := by decide +kernel
theorem d_W_law_339 : decode code 339 = .ok (.invokevirtual 84, 3) := by decide +kernel
theorem d_W_law_342 : decode code 342 = .ok (.istore 6, 2) := by decide +kernel
theorem d_W_law_344 : decode code 344 = .ok (.aload_n 2, 1) := by decide +kernel
theorem d_W_law_345 : decode code 345 = .ok (.invokevirtual 69, 3) := by decide +kernel
theorem d_W_law_348 : decode code 348 = .ok (.iload 5, 2) := by decide +kernel
theorem d_W_law_350 : decode code 350 = .ok (.if_icmp .eq 5, 3) := by decide +kernel
theorem d_W_law_353 : decode code 353 = .ok (.iconst 0, 1) := by decide +kernel
theorem d_W_law_354 : decode code 354 = .ok (.ireturn, 1) := by decide +kernel
theorem d_W_law_355 : decode code 355 = .ok (.iload 5, 2) := by decide +kernel
theorem d_W_law_357 : decode code 357 = .ok (.ifCond .ne 15, 3) := by decide +kernel
theorem d_W_law_360 : decode code 360 = .ok (.aload_n 3, 1) := by decide +kernel
theorem d_W_law_361 : decode code 361 = .ok (.iconst 0, 1) := by decide +kernel
theorem d_W_law_362 : decode code 362 = .ok (.laload, 1) := by decide +kernel
theorem d_W_law_363 : decode code 363 = .ok (.iload 6, 2) := by decide +kernel
theorem d_W_law_365 : decode code 365 = .ok (.i2l, 1) := by decide +kernel
theorem d_W_law_366 : decode code 366 = .ok (.lcmp, 1) := by decide +kernel
theorem d_W_law_367 : decode code 367 = .ok (.ifCond .eq 5, 3) := by decide +kernel
theorem d_W_law_370 : decode code 370 = .ok (.iconst 0, 1) := by decide +kernel
theorem d_W_law_371 : decode code 371 = .ok (.ireturn, 1) := by decide +kernel
theorem d_W_law_372 : decode code 372 = .ok (.goto 631, 3) := by decide +kernel
theorem d_W_law_375 : decode code 375 = .ok (.aload_n 1, 1) := by decide +kernel
theorem d_W_law_376 : decode code 376 = .ok (.aload_n 0, 1) := by decide +kernel
theorem d_W_law_377 : decode code 377 = .ok (.iload 4, 2) := by decide +kernel
theorem d_W_law_379 : decode code 379 = .ok (.iconst 1, 1) := by decide +kernel
theorem d_W_law_380 : decode code 380 = .ok (.iadd, 1) := by decide +kernel
theorem d_W_law_381 : decode code 381 = .ok (.iaload, 1) := by decide +kernel
theorem d_W_law_382 : decode code 382 = .ok (.aload_n 0, 1) := by decide +kernel
theorem d_W_law_383 : decode code 383 = .ok (.iload 4, 2) := by decide +kernel
theorem d_W_law_385 : decode code 385 = .ok (.iconst 2, 1) := by decide +kernel
theorem d_W_law_386 : decode code 386 = .ok (.iadd, 1) := by decide +kernel
theorem d_W_law_387 : decode code 387 = .ok (.iaload, 1) := by decide +kernel
theorem d_W_law_388 : decode code 388 = .ok (.aload_n 3, 1) := by decide +kernel
theorem d_W_law_389 : decode code 389 = .ok (.invokestatic 85, 3) := by decide +kernel
theorem d_W_law_392 : decode code 392 = .ok (.istore 5, 2) := by decide +kernel
theorem d_W_law_394 : decode code 394 = .ok (.aload_n 2, 1) := by decide +kernel
theorem d_W_law_395 : decode code 395 = .ok (.aload_n 0, 1) := by decide +kernel
theorem d_W_law_396 : decode code 396 = .ok (.iload 4, 2) := by decide +kernel
theorem d_W_law_398 : decode code 398 = .ok (.iconst 1, 1) := by decide +kernel
theorem d_W_law_399 : decode code 399 = .ok (.iadd, 1) := by decide +kernel
theorem d_W_law_400 : decode code 400 = .ok (.iaload, 1) := by decide +kernel
theorem d_W_law_401 : decode code 401 = .ok (.aload_n 0, 1) := by decide +kernel
theorem d_W_law_402 : decode code 402 = .ok (.iload 4, 2) := by decide +kernel
theorem d_W_law_404 : decode code 404 = .ok (.iconst 2, 1) := by decide +kernel
theorem d_W_law_405 : decode code 405 = .ok (.iadd, 1) := by decide +kernel
theorem d_W_law_406 : decode code 406 = .ok (.iaload, 1) := by decide +kernel
theorem d_W_law_407 : decode code 407 = .ok (.invokevirtual 87, 3) := by decide +kernel
theorem d_W_law_410 : decode code 410 = .ok (.istore 6, 2) := by decide +kernel
theorem d_W_law_412 : decode code 412 = .ok (.aload_n 2, 1) := by decide +kernel
theorem d_W_law_413 : decode code 413 = .ok (.invokevirtual 69, 3) := by decide +kernel
theorem d_W_law_416 : decode code 416 = .ok (.iload 5, 2) := by decide +kernel
theorem d_W_law_418 : decode code 418 = .ok (.if_icmp .eq 5, 3) := by decide +kernel
theorem d_W_law_421 : decode code 421 = .ok (.iconst 0, 1) := by decide +kernel
theorem d_W_law_422 : decode code 422 = .ok (.ireturn, 1) := by decide +kernel
theorem d_W_law_423 : decode code 423 = .ok (.iload 5, 2) := by decide +kernel
theorem d_W_law_425 : decode code 425 = .ok (.ifCond .ne 15, 3) := by decide +kernel
theorem d_W_law_428 : decode code 428 = .ok (.aload_n 3, 1) := by decide +kernel
theorem d_W_law_429 : decode code 429 = .ok (.iconst 0, 1) := by decide +kernel

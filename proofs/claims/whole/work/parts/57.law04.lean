/-! The law's entry, decoded. -/
theorem d_W_law_430 : decode code 430 = .ok (.laload, 1) := by decide +kernel
theorem d_W_law_431 : decode code 431 = .ok (.iload 6, 2) := by decide +kernel
theorem d_W_law_433 : decode code 433 = .ok (.i2l, 1) := by decide +kernel
theorem d_W_law_434 : decode code 434 = .ok (.lcmp, 1) := by decide +kernel
theorem d_W_law_435 : decode code 435 = .ok (.ifCond .eq 5, 3) := by decide +kernel
theorem d_W_law_438 : decode code 438 = .ok (.iconst 0, 1) := by decide +kernel
theorem d_W_law_439 : decode code 439 = .ok (.ireturn, 1) := by decide +kernel
theorem d_W_law_440 : decode code 440 = .ok (.goto 563, 3) := by decide +kernel
theorem d_W_law_443 : decode code 443 = .ok (.aload_n 1, 1) := by decide +kernel
theorem d_W_law_444 : decode code 444 = .ok (.aload_n 0, 1) := by decide +kernel
theorem d_W_law_445 : decode code 445 = .ok (.iload 4, 2) := by decide +kernel
theorem d_W_law_447 : decode code 447 = .ok (.iconst 1, 1) := by decide +kernel
theorem d_W_law_448 : decode code 448 = .ok (.iadd, 1) := by decide +kernel
theorem d_W_law_449 : decode code 449 = .ok (.iaload, 1) := by decide +kernel
theorem d_W_law_450 : decode code 450 = .ok (.aload_n 0, 1) := by decide +kernel
theorem d_W_law_451 : decode code 451 = .ok (.iload 4, 2) := by decide +kernel
theorem d_W_law_453 : decode code 453 = .ok (.iconst 2, 1) := by decide +kernel
theorem d_W_law_454 : decode code 454 = .ok (.iadd, 1) := by decide +kernel
theorem d_W_law_455 : decode code 455 = .ok (.iaload, 1) := by decide +kernel
theorem d_W_law_456 : decode code 456 = .ok (.aload_n 0, 1) := by decide +kernel
theorem d_W_law_457 : decode code 457 = .ok (.iload 4, 2) := by decide +kernel
theorem d_W_law_459 : decode code 459 = .ok (.iconst 3, 1) := by decide +kernel
theorem d_W_law_460 : decode code 460 = .ok (.iadd, 1) := by decide +kernel
theorem d_W_law_461 : decode code 461 = .ok (.iaload, 1) := by decide +kernel
theorem d_W_law_462 : decode code 462 = .ok (.aload_n 3, 1) := by decide +kernel
theorem d_W_law_463 : decode code 463 = .ok (.invokestatic 88, 3) := by decide +kernel
theorem d_W_law_466 : decode code 466 = .ok (.istore 5, 2) := by decide +kernel
theorem d_W_law_468 : decode code 468 = .ok (.aload_n 2, 1) := by decide +kernel
theorem d_W_law_469 : decode code 469 = .ok (.aload_n 0, 1) := by decide +kernel
theorem d_W_law_470 : decode code 470 = .ok (.iload 4, 2) := by decide +kernel
theorem d_W_law_472 : decode code 472 = .ok (.iconst 1, 1) := by decide +kernel
theorem d_W_law_473 : decode code 473 = .ok (.iadd, 1) := by decide +kernel
theorem d_W_law_474 : decode code 474 = .ok (.iaload, 1) := by decide +kernel
theorem d_W_law_475 : decode code 475 = .ok (.aload_n 0, 1) := by decide +kernel
theorem d_W_law_476 : decode code 476 = .ok (.iload 4, 2) := by decide +kernel
theorem d_W_law_478 : decode code 478 = .ok (.iconst 2, 1) := by decide +kernel
theorem d_W_law_479 : decode code 479 = .ok (.iadd, 1) := by decide +kernel
theorem d_W_law_480 : decode code 480 = .ok (.iaload, 1) := by decide +kernel
theorem d_W_law_481 : decode code 481 = .ok (.aload_n 0, 1) := by decide +kernel
theorem d_W_law_482 : decode code 482 = .ok (.iload 4, 2) := by decide +kernel
theorem d_W_law_484 : decode code 484 = .ok (.iconst 3, 1) := by decide +kernel
theorem d_W_law_485 : decode code 485 = .ok (.iadd, 1) := by decide +kernel
theorem d_W_law_486 : decode code 486 = .ok (.iaload, 1) := by decide +kernel
theorem d_W_law_487 : decode code 487 = .ok (.invokevirtual 91, 3) := by decide +kernel
theorem d_W_law_490 : decode code 490 = .ok (.istore 6, 2) := by decide +kernel
theorem d_W_law_492 : decode code 492 = .ok (.aload_n 2, 1) := by decide +kernel
theorem d_W_law_493 : decode code 493 = .ok (.invokevirtual 69, 3) := by decide +kernel
theorem d_W_law_496 : decode code 496 = .ok (.iload 5, 2) := by decide +kernel
theorem d_W_law_498 : decode code 498 = .ok (.if_icmp .eq 5, 3) := by decide +kernel
theorem d_W_law_501 : decode code 501 = .ok (.iconst 0, 1) := by decide +kernel
theorem d_W_law_502 : decode code 502 = .ok (.ireturn, 1) := by decide +kernel
theorem d_W_law_503 : decode code 503 = .ok (.iload 5, 2) := by decide +kernel
theorem d_W_law_505 : decode code 505 = .ok (.ifCond .ne 15, 3) := by decide +kernel
theorem d_W_law_508 : decode code 508 = .ok (.aload_n 3, 1) := by decide +kernel
theorem d_W_law_509 : decode code 509 = .ok (.iconst 0, 1) := by decide +kernel
theorem d_W_law_510 : decode code 510 = .ok (.laload, 1) := by decide +kernel
theorem d_W_law_511 : decode code 511 = .ok (.iload 6, 2) := by decide +kernel
theorem d_W_law_513 : decode code 513 = .ok (.i2l, 1) := by decide +kernel
theorem d_W_law_514 : decode code 514 = .ok (.lcmp, 1) := by decide +kernel
theorem d_W_law_515 : decode code 515 = .ok (.ifCond .eq 5, 3) := by decide +kernel

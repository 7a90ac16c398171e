/-! The law's entry, decoded. -/
theorem d_W_law_518 : decode code 518 = .ok (.iconst 0, 1) := by decide +kernel
theorem d_W_law_519 : decode code 519 = .ok (.ireturn, 1) := by decide +kernel
theorem d_W_law_520 : decode code 520 = .ok (.goto 483, 3) := by decide +kernel
theorem d_W_law_523 : decode code 523 = .ok (.aload_n 1, 1) := by decide +kernel
theorem d_W_law_524 : decode code 524 = .ok (.aload_n 0, 1) := by decide +kernel
theorem d_W_law_525 : decode code 525 = .ok (.iload 4, 2) := by decide +kernel
theorem d_W_law_527 : decode code 527 = .ok (.iconst 1, 1) := by decide +kernel
theorem d_W_law_528 : decode code 528 = .ok (.iadd, 1) := by decide +kernel
theorem d_W_law_529 : decode code 529 = .ok (.iaload, 1) := by decide +kernel
theorem d_W_law_530 : decode code 530 = .ok (.aload_n 0, 1) := by decide +kernel
theorem d_W_law_531 : decode code 531 = .ok (.iload 4, 2) := by decide +kernel
theorem d_W_law_533 : decode code 533 = .ok (.iconst 2, 1) := by decide +kernel
theorem d_W_law_534 : decode code 534 = .ok (.iadd, 1) := by decide +kernel
theorem d_W_law_535 : decode code 535 = .ok (.iaload, 1) := by decide +kernel
theorem d_W_law_536 : decode code 536 = .ok (.aload_n 0, 1) := by decide +kernel
theorem d_W_law_537 : decode code 537 = .ok (.iload 4, 2) := by decide +kernel
theorem d_W_law_539 : decode code 539 = .ok (.iconst 3, 1) := by decide +kernel
theorem d_W_law_540 : decode code 540 = .ok (.iadd, 1) := by decide +kernel
theorem d_W_law_541 : decode code 541 = .ok (.iaload, 1) := by decide +kernel
theorem d_W_law_542 : decode code 542 = .ok (.aload_n 0, 1) := by decide +kernel
theorem d_W_law_543 : decode code 543 = .ok (.iload 4, 2) := by decide +kernel
theorem d_W_law_545 : decode code 545 = .ok (.iconst 4, 1) := by decide +kernel
theorem d_W_law_546 : decode code 546 = .ok (.iadd, 1) := by decide +kernel
theorem d_W_law_547 : decode code 547 = .ok (.iaload, 1) := by decide +kernel
theorem d_W_law_548 : decode code 548 = .ok (.aload_n 3, 1) := by decide +kernel
theorem d_W_law_549 : decode code 549 = .ok (.invokestatic 92, 3) := by decide +kernel
theorem d_W_law_552 : decode code 552 = .ok (.istore 5, 2) := by decide +kernel
theorem d_W_law_554 : decode code 554 = .ok (.aload_n 2, 1) := by decide +kernel
theorem d_W_law_555 : decode code 555 = .ok (.aload_n 0, 1) := by decide +kernel
theorem d_W_law_556 : decode code 556 = .ok (.iload 4, 2) := by decide +kernel
theorem d_W_law_558 : decode code 558 = .ok (.iconst 1, 1) := by decide +kernel
theorem d_W_law_559 : decode code 559 = .ok (.iadd, 1) := by decide +kernel
theorem d_W_law_560 : decode code 560 = .ok (.iaload, 1) := by decide +kernel
theorem d_W_law_561 : decode code 561 = .ok (.aload_n 0, 1) := by decide +kernel
theorem d_W_law_562 : decode code 562 = .ok (.iload 4, 2) := by decide +kernel
theorem d_W_law_564 : decode code 564 = .ok (.iconst 2, 1) := by decide +kernel
theorem d_W_law_565 : decode code 565 = .ok (.iadd, 1) := by decide +kernel
theorem d_W_law_566 : decode code 566 = .ok (.iaload, 1) := by decide +kernel
theorem d_W_law_567 : decode code 567 = .ok (.aload_n 0, 1) := by decide +kernel
theorem d_W_law_568 : decode code 568 = .ok (.iload 4, 2) := by decide +kernel
theorem d_W_law_570 : decode code 570 = .ok (.iconst 3, 1) := by decide +kernel
theorem d_W_law_571 : decode code 571 = .ok (.iadd, 1) := by decide +kernel
theorem d_W_law_572 : decode code 572 = .ok (.iaload, 1) := by decide +kernel
theorem d_W_law_573 : decode code 573 = .ok (.aload_n 0, 1) := by decide +kernel
theorem d_W_law_574 : decode code 574 = .ok (.iload 4, 2) := by decide +kernel
theorem d_W_law_576 : decode code 576 = .ok (.iconst 4, 1) := by decide +kernel
theorem d_W_law_577 : decode code 577 = .ok (.iadd, 1) := by decide +kernel
theorem d_W_law_578 : decode code 578 = .ok (.iaload, 1) := by decide +kernel
theorem d_W_law_579 : decode code 579 = .ok (.invokevirtual 95, 3) := by decide +kernel
theorem d_W_law_582 : decode code 582 = .ok (.istore 6, 2) := by decide +kernel
theorem d_W_law_584 : decode code 584 = .ok (.aload_n 2, 1) := by decide +kernel
theorem d_W_law_585 : decode code 585 = .ok (.invokevirtual 69, 3) := by decide +kernel
theorem d_W_law_588 : decode code 588 = .ok (.iload 5, 2) := by decide +kernel
theorem d_W_law_590 : decode code 590 = .ok (.if_icmp .eq 5, 3) := by decide +kernel
theorem d_W_law_593 : decode code 593 = .ok (.iconst 0, 1) := by decide +kernel
theorem d_W_law_594 : decode code 594 = .ok (.ireturn, 1) := by decide +kernel
theorem d_W_law_595 : decode code 595 = .ok (.iload 5, 2) := by decide +kernel
theorem d_W_law_597 : decode code 597 = .ok (.ifCond .ne 15, 3) := by decide +kernel
theorem d_W_law_600 : decode code 600 = .ok (.aload_n 3, 1) := by decide +kernel
theorem d_W_law_601 : decode code 601 = .ok (.iconst 0, 1) := by decide +kernel

/-! The law's entry, decoded. -/
theorem d_W_law_602 : decode code 602 = .ok (.laload, 1) := by decide +kernel
theorem d_W_law_603 : decode code 603 = .ok (.iload 6, 2) := by decide +kernel
theorem d_W_law_605 : decode code 605 = .ok (.i2l, 1) := by decide +kernel
theorem d_W_law_606 : decode code 606 = .ok (.lcmp, 1) := by decide +kernel
theorem d_W_law_607 : decode code 607 = .ok (.ifCond .eq 5, 3) := by decide +kernel
theorem d_W_law_610 : decode code 610 = .ok (.iconst 0, 1) := by decide +kernel
theorem d_W_law_611 : decode code 611 = .ok (.ireturn, 1) := by decide +kernel
theorem d_W_law_612 : decode code 612 = .ok (.goto 391, 3) := by decide +kernel
theorem d_W_law_615 : decode code 615 = .ok (.aload_n 1, 1) := by decide +kernel
theorem d_W_law_616 : decode code 616 = .ok (.aload_n 0, 1) := by decide +kernel
theorem d_W_law_617 : decode code 617 = .ok (.iload 4, 2) := by decide +kernel
theorem d_W_law_619 : decode code 619 = .ok (.iconst 1, 1) := by decide +kernel
theorem d_W_law_620 : decode code 620 = .ok (.iadd, 1) := by decide +kernel
theorem d_W_law_621 : decode code 621 = .ok (.iaload, 1) := by decide +kernel
theorem d_W_law_622 : decode code 622 = .ok (.aload_n 0, 1) := by decide +kernel
theorem d_W_law_623 : decode code 623 = .ok (.iload 4, 2) := by decide +kernel
theorem d_W_law_625 : decode code 625 = .ok (.iconst 2, 1) := by decide +kernel
theorem d_W_law_626 : decode code 626 = .ok (.iadd, 1) := by decide +kernel
theorem d_W_law_627 : decode code 627 = .ok (.iaload, 1) := by decide +kernel
theorem d_W_law_628 : decode code 628 = .ok (.aload_n 0, 1) := by decide +kernel
theorem d_W_law_629 : decode code 629 = .ok (.iload 4, 2) := by decide +kernel
theorem d_W_law_631 : decode code 631 = .ok (.iconst 3, 1) := by decide +kernel
theorem d_W_law_632 : decode code 632 = .ok (.iadd, 1) := by decide +kernel
theorem d_W_law_633 : decode code 633 = .ok (.iaload, 1) := by decide +kernel
theorem d_W_law_634 : decode code 634 = .ok (.aload_n 3, 1) := by decide +kernel
theorem d_W_law_635 : decode code 635 = .ok (.invokestatic 96, 3) := by decide +kernel
theorem d_W_law_638 : decode code 638 = .ok (.istore 5, 2) := by decide +kernel
theorem d_W_law_640 : decode code 640 = .ok (.aload_n 2, 1) := by decide +kernel
theorem d_W_law_641 : decode code 641 = .ok (.aload_n 0, 1) := by decide +kernel
theorem d_W_law_642 : decode code 642 = .ok (.iload 4, 2) := by decide +kernel
theorem d_W_law_644 : decode code 644 = .ok (.iconst 1, 1) := by decide +kernel
theorem d_W_law_645 : decode code 645 = .ok (.iadd, 1) := by decide +kernel
theorem d_W_law_646 : decode code 646 = .ok (.iaload, 1) := by decide +kernel
theorem d_W_law_647 : decode code 647 = .ok (.aload_n 0, 1) := by decide +kernel
theorem d_W_law_648 : decode code 648 = .ok (.iload 4, 2) := by decide +kernel
theorem d_W_law_650 : decode code 650 = .ok (.iconst 2, 1) := by decide +kernel
theorem d_W_law_651 : decode code 651 = .ok (.iadd, 1) := by decide +kernel
theorem d_W_law_652 : decode code 652 = .ok (.iaload, 1) := by decide +kernel
theorem d_W_law_653 : decode code 653 = .ok (.aload_n 0, 1) := by decide +kernel
theorem d_W_law_654 : decode code 654 = .ok (.iload 4, 2) := by decide +kernel
theorem d_W_law_656 : decode code 656 = .ok (.iconst 3, 1) := by decide +kernel
theorem d_W_law_657 : decode code 657 = .ok (.iadd, 1) := by decide +kernel
theorem d_W_law_658 : decode code 658 = .ok (.iaload, 1) := by decide +kernel
theorem d_W_law_659 : decode code 659 = .ok (.invokevirtual 98, 3) := by decide +kernel
theorem d_W_law_662 : decode code 662 = .ok (.istore 6, 2) := by decide +kernel
theorem d_W_law_664 : decode code 664 = .ok (.aload_n 2, 1) := by decide +kernel
theorem d_W_law_665 : decode code 665 = .ok (.invokevirtual 69, 3) := by decide +kernel
theorem d_W_law_668 : decode code 668 = .ok (.iload 5, 2) := by decide +kernel
theorem d_W_law_670 : decode code 670 = .ok (.if_icmp .eq 5, 3) := by decide +kernel
theorem d_W_law_673 : decode code 673 = .ok (.iconst 0, 1) := by decide +kernel
theorem d_W_law_674 : decode code 674 = .ok (.ireturn, 1) := by decide +kernel
theorem d_W_law_675 : decode code 675 = .ok (.iload 5, 2) := by decide +kernel
theorem d_W_law_677 : decode code 677 = .ok (.ifCond .ne 15, 3) := by decide +kernel
theorem d_W_law_680 : decode code 680 = .ok (.aload_n 3, 1) := by decide +kernel
theorem d_W_law_681 : decode code 681 = .ok (.iconst 0, 1) := by decide +kernel
theorem d_W_law_682 : decode code 682 = .ok (.laload, 1) := by decide +kernel
theorem d_W_law_683 : decode code 683 = .ok (.iload 6, 2) := by decide +kernel
theorem d_W_law_685 : decode code 685 = .ok (.i2l, 1) := by decide +kernel
theorem d_W_law_686 : decode code 686 = .ok (.lcmp, 1) := by decide +kernel
theorem d_W_law_687 : decode code 687 = .ok (.ifCond .eq 5, 3) := by decide +kernel

/-! The law's entry, decoded. -/
theorem d_W_law_690 : decode code 690 = .ok (.iconst 0, 1) := by decide +kernel
theorem d_W_law_691 : decode code 691 = .ok (.ireturn, 1) := by decide +kernel
theorem d_W_law_692 : decode code 692 = .ok (.goto 311, 3) := by decide +kernel
theorem d_W_law_695 : decode code 695 = .ok (.aload_n 1, 1) := by decide +kernel
theorem d_W_law_696 : decode code 696 = .ok (.aload_n 0, 1) := by decide +kernel
theorem d_W_law_697 : decode code 697 = .ok (.iload 4, 2) := by decide +kernel
theorem d_W_law_699 : decode code 699 = .ok (.iconst 1, 1) := by decide +kernel
theorem d_W_law_700 : decode code 700 = .ok (.iadd, 1) := by decide +kernel
theorem d_W_law_701 : decode code 701 = .ok (.iaload, 1) := by decide +kernel
theorem d_W_law_702 : decode code 702 = .ok (.aload_n 0, 1) := by decide +kernel
theorem d_W_law_703 : decode code 703 = .ok (.iload 4, 2) := by decide +kernel
theorem d_W_law_705 : decode code 705 = .ok (.iconst 2, 1) := by decide +kernel
theorem d_W_law_706 : decode code 706 = .ok (.iadd, 1) := by decide +kernel
theorem d_W_law_707 : decode code 707 = .ok (.iaload, 1) := by decide +kernel
theorem d_W_law_708 : decode code 708 = .ok (.aload_n 0, 1) := by decide +kernel
theorem d_W_law_709 : decode code 709 = .ok (.iload 4, 2) := by decide +kernel
theorem d_W_law_711 : decode code 711 = .ok (.iconst 3, 1) := by decide +kernel
theorem d_W_law_712 : decode code 712 = .ok (.iadd, 1) := by decide +kernel
theorem d_W_law_713 : decode code 713 = .ok (.iaload, 1) := by decide +kernel
theorem d_W_law_714 : decode code 714 = .ok (.aload_n 3, 1) := by decide +kernel
theorem d_W_law_715 : decode code 715 = .ok (.invokestatic 99, 3) := by decide +kernel
theorem d_W_law_718 : decode code 718 = .ok (.istore 5, 2) := by decide +kernel
theorem d_W_law_720 : decode code 720 = .ok (.aload_n 2, 1) := by decide +kernel
theorem d_W_law_721 : decode code 721 = .ok (.aload_n 0, 1) := by decide +kernel
theorem d_W_law_722 : decode code 722 = .ok (.iload 4, 2) := by decide +kernel
theorem d_W_law_724 : decode code 724 = .ok (.iconst 1, 1) := by decide +kernel
theorem d_W_law_725 : decode code 725 = .ok (.iadd, 1) := by decide +kernel
theorem d_W_law_726 : decode code 726 = .ok (.iaload, 1) := by decide +kernel
theorem d_W_law_727 : decode code 727 = .ok (.aload_n 0, 1) := by decide +kernel
theorem d_W_law_728 : decode code 728 = .ok (.iload 4, 2) := by decide +kernel
theorem d_W_law_730 : decode code 730 = .ok (.iconst 2, 1) := by decide +kernel
theorem d_W_law_731 : decode code 731 = .ok (.iadd, 1) := by decide +kernel
theorem d_W_law_732 : decode code 732 = .ok (.iaload, 1) := by decide +kernel
theorem d_W_law_733 : decode code 733 = .ok (.aload_n 0, 1) := by decide +kernel
theorem d_W_law_734 : decode code 734 = .ok (.iload 4, 2) := by decide +kernel
theorem d_W_law_736 : decode code 736 = .ok (.iconst 3, 1) := by decide +kernel
theorem d_W_law_737 : decode code 737 = .ok (.iadd, 1) := by decide +kernel
theorem d_W_law_738 : decode code 738 = .ok (.iaload, 1) := by decide +kernel
theorem d_W_law_739 : decode code 739 = .ok (.invokevirtual 101, 3) := by decide +kernel
theorem d_W_law_742 : decode code 742 = .ok (.istore 6, 2) := by decide +kernel
theorem d_W_law_744 : decode code 744 = .ok (.aload_n 2, 1) := by decide +kernel
theorem d_W_law_745 : decode code 745 = .ok (.invokevirtual 69, 3) := by decide +kernel
theorem d_W_law_748 : decode code 748 = .ok (.iload 5, 2) := by decide +kernel
theorem d_W_law_750 : decode code 750 = .ok (.if_icmp .eq 5, 3) := by decide +kernel
theorem d_W_law_753 : decode code 753 = .ok (.iconst 0, 1) := by decide +kernel
theorem d_W_law_754 : decode code 754 = .ok (.ireturn, 1) := by decide +kernel
theorem d_W_law_755 : decode code 755 = .ok (.iload 5, 2) := by decide +kernel
theorem d_W_law_757 : decode code 757 = .ok (.ifCond .ne 15, 3) := by decide +kernel
theorem d_W_law_760 : decode code 760 = .ok (.aload_n 3, 1) := by decide +kernel
theorem d_W_law_761 : decode code 761 = .ok (.iconst 0, 1) := by decide +kernel
theorem d_W_law_762 : decode code 762 = .ok (.laload, 1) := by decide +kernel
theorem d_W_law_763 : decode code 763 = .ok (.iload 6, 2) := by decide +kernel
theorem d_W_law_765 : decode code 765 = .ok (.i2l, 1) := by decide +kernel
theorem d_W_law_766 : decode code 766 = .ok (.lcmp, 1) := by decide +kernel
theorem d_W_law_767 : decode code 767 = .ok (.ifCond .eq 5, 3) := by decide +kernel
theorem d_W_law_770 : decode code 770 = .ok (.iconst 0, 1) := by decide +kernel
theorem d_W_law_771 : decode code 771 = .ok (.ireturn, 1) := by decide +kernel
theorem d_W_law_772 : decode code 772 = .ok (.goto 231, 3) := by decide +kernel
theorem d_W_law_775 : decode code 775 = .ok (.aload_n 1, 1) := by decide +kernel
theorem d_W_law_776 : decode code 776 = .ok (.aload_n 0, 1) := by decide +kernel

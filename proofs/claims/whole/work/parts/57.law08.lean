/-! The law's entry, decoded. -/
theorem d_W_law_777 : decode code 777 = .ok (.iload 4, 2) := by decide +kernel
theorem d_W_law_779 : decode code 779 = .ok (.iconst 1, 1) := by decide +kernel
theorem d_W_law_780 : decode code 780 = .ok (.iadd, 1) := by decide +kernel
theorem d_W_law_781 : decode code 781 = .ok (.iaload, 1) := by decide +kernel
theorem d_W_law_782 : decode code 782 = .ok (.aload_n 0, 1) := by decide +kernel
theorem d_W_law_783 : decode code 783 = .ok (.iload 4, 2) := by decide +kernel
theorem d_W_law_785 : decode code 785 = .ok (.iconst 2, 1) := by decide +kernel
theorem d_W_law_786 : decode code 786 = .ok (.iadd, 1) := by decide +kernel
theorem d_W_law_787 : decode code 787 = .ok (.iaload, 1) := by decide +kernel
theorem d_W_law_788 : decode code 788 = .ok (.aload_n 3, 1) := by decide +kernel
theorem d_W_law_789 : decode code 789 = .ok (.invokestatic 102, 3) := by decide +kernel
theorem d_W_law_792 : decode code 792 = .ok (.istore 5, 2) := by decide +kernel
theorem d_W_law_794 : decode code 794 = .ok (.aload_n 2, 1) := by decide +kernel
theorem d_W_law_795 : decode code 795 = .ok (.aload_n 0, 1) := by decide +kernel
theorem d_W_law_796 : decode code 796 = .ok (.iload 4, 2) := by decide +kernel
theorem d_W_law_798 : decode code 798 = .ok (.iconst 1, 1) := by decide +kernel
theorem d_W_law_799 : decode code 799 = .ok (.iadd, 1) := by decide +kernel
theorem d_W_law_800 : decode code 800 = .ok (.iaload, 1) := by decide +kernel
theorem d_W_law_801 : decode code 801 = .ok (.aload_n 0, 1) := by decide +kernel
theorem d_W_law_802 : decode code 802 = .ok (.iload 4, 2) := by decide +kernel
theorem d_W_law_804 : decode code 804 = .ok (.iconst 2, 1) := by decide +kernel
theorem d_W_law_805 : decode code 805 = .ok (.iadd, 1) := by decide +kernel
theorem d_W_law_806 : decode code 806 = .ok (.iaload, 1) := by decide +kernel
theorem d_W_law_807 : decode code 807 = .ok (.invokevirtual 104, 3) := by decide +kernel
theorem d_W_law_810 : decode code 810 = .ok (.istore 6, 2) := by decide +kernel
theorem d_W_law_812 : decode code 812 = .ok (.aload_n 2, 1) := by decide +kernel
theorem d_W_law_813 : decode code 813 = .ok (.invokevirtual 69, 3) := by decide +kernel
theorem d_W_law_816 : decode code 816 = .ok (.iload 5, 2) := by decide +kernel
theorem d_W_law_818 : decode code 818 = .ok (.if_icmp .eq 5, 3) := by decide +kernel
theorem d_W_law_821 : decode code 821 = .ok (.iconst 0, 1) := by decide +kernel
theorem d_W_law_822 : decode code 822 = .ok (.ireturn, 1) := by decide +kernel
theorem d_W_law_823 : decode code 823 = .ok (.iload 5, 2) := by decide +kernel
theorem d_W_law_825 : decode code 825 = .ok (.ifCond .ne 15, 3) := by decide +kernel
theorem d_W_law_828 : decode code 828 = .ok (.aload_n 3, 1) := by decide +kernel
theorem d_W_law_829 : decode code 829 = .ok (.iconst 0, 1) := by decide +kernel
theorem d_W_law_830 : decode code 830 = .ok (.laload, 1) := by decide +kernel
theorem d_W_law_831 : decode code 831 = .ok (.iload 6, 2) := by decide +kernel
theorem d_W_law_833 : decode code 833 = .ok (.i2l, 1) := by decide +kernel
theorem d_W_law_834 : decode code 834 = .ok (.lcmp, 1) := by decide +kernel
theorem d_W_law_835 : decode code 835 = .ok (.ifCond .eq 5, 3) := by decide +kernel
theorem d_W_law_838 : decode code 838 = .ok (.iconst 0, 1) := by decide +kernel
theorem d_W_law_839 : decode code 839 = .ok (.ireturn, 1) := by decide +kernel
theorem d_W_law_840 : decode code 840 = .ok (.goto 163, 3) := by decide +kernel
theorem d_W_law_843 : decode code 843 = .ok (.aload_n 1, 1) := by decide +kernel
theorem d_W_law_844 : decode code 844 = .ok (.aload_n 0, 1) := by decide +kernel
theorem d_W_law_845 : decode code 845 = .ok (.iload 4, 2) := by decide +kernel
theorem d_W_law_847 : decode code 847 = .ok (.iconst 1, 1) := by decide +kernel
theorem d_W_law_848 : decode code 848 = .ok (.iadd, 1) := by decide +kernel
theorem d_W_law_849 : decode code 849 = .ok (.iaload, 1) := by decide +kernel
theorem d_W_law_850 : decode code 850 = .ok (.aload_n 0, 1) := by decide +kernel
theorem d_W_law_851 : decode code 851 = .ok (.iload 4, 2) := by decide +kernel
theorem d_W_law_853 : decode code 853 = .ok (.iconst 2, 1) := by decide +kernel
theorem d_W_law_854 : decode code 854 = .ok (.iadd, 1) := by decide +kernel
theorem d_W_law_855 : decode code 855 = .ok (.iaload, 1) := by decide +kernel
theorem d_W_law_856 : decode code 856 = .ok (.aload_n 0, 1) := by decide +kernel
theorem d_W_law_857 : decode code 857 = .ok (.iload 4, 2) := by decide +kernel
theorem d_W_law_859 : decode code 859 = .ok (.iconst 3, 1) := by decide +kernel
theorem d_W_law_860 : decode code 860 = .ok (.iadd, 1) := by decide +kernel
theorem d_W_law_861 : decode code 861 = .ok (.iaload, 1) := by decide +kernel
theorem d_W_law_862 : decode code 862 = .ok (.aload_n 3, 1) := by decide +kernel

/-! The law's entry, decoded. -/
theorem d_W_law_863 : decode code 863 = .ok (.invokestatic 105, 3) := by decide +kernel
theorem d_W_law_866 : decode code 866 = .ok (.istore 5, 2) := by decide +kernel
theorem d_W_law_868 : decode code 868 = .ok (.aload_n 2, 1) := by decide +kernel
theorem d_W_law_869 : decode code 869 = .ok (.aload_n 0, 1) := by decide +kernel
theorem d_W_law_870 : decode code 870 = .ok (.iload 4, 2) := by decide +kernel
theorem d_W_law_872 : decode code 872 = .ok (.iconst 1, 1) := by decide +kernel
theorem d_W_law_873 : decode code 873 = .ok (.iadd, 1) := by decide +kernel
theorem d_W_law_874 : decode code 874 = .ok (.iaload, 1) := by decide +kernel
theorem d_W_law_875 : decode code 875 = .ok (.aload_n 0, 1) := by decide +kernel
theorem d_W_law_876 : decode code 876 = .ok (.iload 4, 2) := by decide +kernel
theorem d_W_law_878 : decode code 878 = .ok (.iconst 2, 1) := by decide +kernel
theorem d_W_law_879 : decode code 879 = .ok (.iadd, 1) := by decide +kernel
theorem d_W_law_880 : decode code 880 = .ok (.iaload, 1) := by decide +kernel
theorem d_W_law_881 : decode code 881 = .ok (.aload_n 0, 1) := by decide +kernel
theorem d_W_law_882 : decode code 882 = .ok (.iload 4, 2) := by decide +kernel
theorem d_W_law_884 : decode code 884 = .ok (.iconst 3, 1) := by decide +kernel
theorem d_W_law_885 : decode code 885 = .ok (.iadd, 1) := by decide +kernel
theorem d_W_law_886 : decode code 886 = .ok (.iaload, 1) := by decide +kernel
theorem d_W_law_887 : decode code 887 = .ok (.invokevirtual 107, 3) := by decide +kernel
theorem d_W_law_890 : decode code 890 = .ok (.istore 6, 2) := by decide +kernel
theorem d_W_law_892 : decode code 892 = .ok (.aload_n 2, 1) := by decide +kernel
theorem d_W_law_893 : decode code 893 = .ok (.invokevirtual 69, 3) := by decide +kernel
theorem d_W_law_896 : decode code 896 = .ok (.iload 5, 2) := by decide +kernel
theorem d_W_law_898 : decode code 898 = .ok (.if_icmp .eq 5, 3) := by decide +kernel
theorem d_W_law_901 : decode code 901 = .ok (.iconst 0, 1) := by decide +kernel
theorem d_W_law_902 : decode code 902 = .ok (.ireturn, 1) := by decide +kernel
theorem d_W_law_903 : decode code 903 = .ok (.iload 5, 2) := by decide +kernel
theorem d_W_law_905 : decode code 905 = .ok (.ifCond .ne 15, 3) := by decide +kernel
theorem d_W_law_908 : decode code 908 = .ok (.aload_n 3, 1) := by decide +kernel
theorem d_W_law_909 : decode code 909 = .ok (.iconst 0, 1) := by decide +kernel
theorem d_W_law_910 : decode code 910 = .ok (.laload, 1) := by decide +kernel
theorem d_W_law_911 : decode code 911 = .ok (.iload 6, 2) := by decide +kernel
theorem d_W_law_913 : decode code 913 = .ok (.i2l, 1) := by decide +kernel
theorem d_W_law_914 : decode code 914 = .ok (.lcmp, 1) := by decide +kernel
theorem d_W_law_915 : decode code 915 = .ok (.ifCond .eq 5, 3) := by decide +kernel
theorem d_W_law_918 : decode code 918 = .ok (.iconst 0, 1) := by decide +kernel
theorem d_W_law_919 : decode code 919 = .ok (.ireturn, 1) := by decide +kernel
theorem d_W_law_920 : decode code 920 = .ok (.goto 83, 3) := by decide +kernel
theorem d_W_law_923 : decode code 923 = .ok (.aload_n 1, 1) := by decide +kernel
theorem d_W_law_924 : decode code 924 = .ok (.invokevirtual 108, 3) := by decide +kernel
theorem d_W_law_927 : decode code 927 = .ok (.aload_n 2, 1) := by decide +kernel
theorem d_W_law_928 : decode code 928 = .ok (.invokevirtual 111, 3) := by decide +kernel
theorem d_W_law_931 : decode code 931 = .ok (.if_icmp .eq 72, 3) := by decide +kernel
theorem d_W_law_934 : decode code 934 = .ok (.iconst 0, 1) := by decide +kernel
theorem d_W_law_935 : decode code 935 = .ok (.ireturn, 1) := by decide +kernel
theorem d_W_law_936 : decode code 936 = .ok (.aload_n 1, 1) := by decide +kernel
theorem d_W_law_937 : decode code 937 = .ok (.aload_n 0, 1) := by decide +kernel
theorem d_W_law_938 : decode code 938 = .ok (.iload 4, 2) := by decide +kernel
theorem d_W_law_940 : decode code 940 = .ok (.iconst 1, 1) := by decide +kernel
theorem d_W_law_941 : decode code 941 = .ok (.iadd, 1) := by decide +kernel
theorem d_W_law_942 : decode code 942 = .ok (.iaload, 1) := by decide +kernel
theorem d_W_law_943 : decode code 943 = .ok (.aload_n 3, 1) := by decide +kernel
theorem d_W_law_944 : decode code 944 = .ok (.invokestatic 112, 3) := by decide +kernel
theorem d_W_law_947 : decode code 947 = .ok (.istore 5, 2) := by decide +kernel
theorem d_W_law_949 : decode code 949 = .ok (.aload_n 2, 1) := by decide +kernel
theorem d_W_law_950 : decode code 950 = .ok (.aload_n 0, 1) := by decide +kernel
theorem d_W_law_951 : decode code 951 = .ok (.iload 4, 2) := by decide +kernel
theorem d_W_law_953 : decode code 953 = .ok (.iconst 1, 1) := by decide +kernel
theorem d_W_law_954 : decode code 954 = .ok (.iadd, 1) := by decide +kernel
theorem d_W_law_955 : decode code 955 = .ok (.iaload, 1) := by decide +kernel

/-! The law's entry, decoded. -/
theorem d_W_law_956 : decode code 956 = .ok (.invokevirtual 114, 3) := by decide +kernel
theorem d_W_law_959 : decode code 959 = .ok (.istore 6, 2) := by decide +kernel
theorem d_W_law_961 : decode code 961 = .ok (.aload_n 2, 1) := by decide +kernel
theorem d_W_law_962 : decode code 962 = .ok (.invokevirtual 69, 3) := by decide +kernel
theorem d_W_law_965 : decode code 965 = .ok (.iload 5, 2) := by decide +kernel
theorem d_W_law_967 : decode code 967 = .ok (.if_icmp .eq 5, 3) := by decide +kernel
theorem d_W_law_970 : decode code 970 = .ok (.iconst 0, 1) := by decide +kernel
theorem d_W_law_971 : decode code 971 = .ok (.ireturn, 1) := by decide +kernel
theorem d_W_law_972 : decode code 972 = .ok (.iload 5, 2) := by decide +kernel
theorem d_W_law_974 : decode code 974 = .ok (.ifCond .ne 15, 3) := by decide +kernel
theorem d_W_law_977 : decode code 977 = .ok (.aload_n 3, 1) := by decide +kernel
theorem d_W_law_978 : decode code 978 = .ok (.iconst 0, 1) := by decide +kernel
theorem d_W_law_979 : decode code 979 = .ok (.laload, 1) := by decide +kernel
theorem d_W_law_980 : decode code 980 = .ok (.iload 6, 2) := by decide +kernel
theorem d_W_law_982 : decode code 982 = .ok (.i2l, 1) := by decide +kernel
theorem d_W_law_983 : decode code 983 = .ok (.lcmp, 1) := by decide +kernel
theorem d_W_law_984 : decode code 984 = .ok (.ifCond .eq 5, 3) := by decide +kernel
theorem d_W_law_987 : decode code 987 = .ok (.iconst 0, 1) := by decide +kernel
theorem d_W_law_988 : decode code 988 = .ok (.ireturn, 1) := by decide +kernel
theorem d_W_law_989 : decode code 989 = .ok (.goto 14, 3) := by decide +kernel
theorem d_W_law_992 : decode code 992 = .ok (.aload_n 1, 1) := by decide +kernel
theorem d_W_law_993 : decode code 993 = .ok (.invokevirtual 115, 3) := by decide +kernel
theorem d_W_law_996 : decode code 996 = .ok (.aload_n 2, 1) := by decide +kernel
theorem d_W_law_997 : decode code 997 = .ok (.invokevirtual 118, 3) := by decide +kernel
theorem d_W_law_1000 : decode code 1000 = .ok (.goto 3, 3) := by decide +kernel
theorem d_W_law_1003 : decode code 1003 = .ok (.iinc 4 7, 3) := by decide +kernel
theorem d_W_law_1006 : decode code 1006 = .ok (.goto (-973), 3) := by decide +kernel
theorem d_W_law_1009 : decode code 1009 = .ok (.iconst 1, 1) := by decide +kernel
theorem d_W_law_1010 : decode code 1010 = .ok (.ireturn, 1) := by decide +kernel

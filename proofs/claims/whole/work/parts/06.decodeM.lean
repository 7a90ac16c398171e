theorem d_M_init_0 : decode c_M_init 0 = .ok (.aload_n 0, 1) := by decide +kernel
theorem d_M_init_1 : decode c_M_init 1 = .ok (.invokespecial 1, 3) := by decide +kernel
theorem d_M_init_4 : decode c_M_init 4 = .ok (.aload_n 0, 1) := by decide +kernel
theorem d_M_init_5 : decode c_M_init 5 = .ok (.sipush 1000, 3) := by decide +kernel
theorem d_M_init_8 : decode c_M_init 8 = .ok (.newarray .int, 2) := by decide +kernel
theorem d_M_init_10 : decode c_M_init 10 = .ok (.putfield 7, 3) := by decide +kernel
theorem d_M_init_13 : decode c_M_init 13 = .ok (.aload_n 0, 1) := by decide +kernel
theorem d_M_init_14 : decode c_M_init 14 = .ok (.sipush 1000, 3) := by decide +kernel
theorem d_M_init_17 : decode c_M_init 17 = .ok (.newarray .int, 2) := by decide +kernel
theorem d_M_init_19 : decode c_M_init 19 = .ok (.putfield 13, 3) := by decide +kernel
theorem d_M_init_22 : decode c_M_init 22 = .ok (.aload_n 0, 1) := by decide +kernel
theorem d_M_init_23 : decode c_M_init 23 = .ok (.sipush 1000, 3) := by decide +kernel
theorem d_M_init_26 : decode c_M_init 26 = .ok (.newarray .int, 2) := by decide +kernel
theorem d_M_init_28 : decode c_M_init 28 = .ok (.putfield 16, 3) := by decide +kernel
theorem d_M_init_31 : decode c_M_init 31 = .ok (.aload_n 0, 1) := by decide +kernel
theorem d_M_init_32 : decode c_M_init 32 = .ok (.iload_n 1, 1) := by decide +kernel
theorem d_M_init_33 : decode c_M_init 33 = .ok (.iconst 1, 1) := by decide +kernel
theorem d_M_init_34 : decode c_M_init 34 = .ok (.if_icmp .ge 7, 3) := by decide +kernel
theorem d_M_init_37 : decode c_M_init 37 = .ok (.iconst 1, 1) := by decide +kernel
theorem d_M_init_38 : decode c_M_init 38 = .ok (.goto 15, 3) := by decide +kernel
theorem d_M_init_41 : decode c_M_init 41 = .ok (.iload_n 1, 1) := by decide +kernel
theorem d_M_init_42 : decode c_M_init 42 = .ok (.ldc 19, 2) := by decide +kernel
theorem d_M_init_44 : decode c_M_init 44 = .ok (.if_icmp .le 8, 3) := by decide +kernel
theorem d_M_init_47 : decode c_M_init 47 = .ok (.ldc 19, 2) := by decide +kernel
theorem d_M_init_49 : decode c_M_init 49 = .ok (.goto 4, 3) := by decide +kernel
theorem d_M_init_52 : decode c_M_init 52 = .ok (.iload_n 1, 1) := by decide +kernel
theorem d_M_init_53 : decode c_M_init 53 = .ok (.putfield 20, 3) := by decide +kernel
theorem d_M_init_56 : decode c_M_init 56 = .ok (.return_, 1) := by decide +kernel
theorem d_M_thrown_0 : decode c_M_thrown 0 = .ok (.aload_n 0, 1) := by decide +kernel
theorem d_M_thrown_1 : decode c_M_thrown 1 = .ok (.getfield 24, 3) := by decide +kernel
theorem d_M_thrown_4 : decode c_M_thrown 4 = .ok (.ireturn, 1) := by decide +kernel
theorem d_M_put_0 : decode c_M_put 0 = .ok (.iconst 1, 1) := by decide +kernel
theorem d_M_put_1 : decode c_M_put 1 = .ok (.istore 7, 2) := by decide +kernel
theorem d_M_put_3 : decode c_M_put 3 = .ok (.iconst 0, 1) := by decide +kernel
theorem d_M_put_4 : decode c_M_put 4 = .ok (.istore 8, 2) := by decide +kernel
theorem d_M_put_6 : decode c_M_put 6 = .ok (.iload 8, 2) := by decide +kernel
theorem d_M_put_8 : decode c_M_put 8 = .ok (.iload 6, 2) := by decide +kernel
theorem d_M_put_10 : decode c_M_put 10 = .ok (.if_icmp .ge 47, 3) := by decide +kernel
theorem d_M_put_13 : decode c_M_put 13 = .ok (.iload 8, 2) := by decide +kernel
theorem d_M_put_15 : decode c_M_put 15 = .ok (.bipush 10, 2) := by decide +kernel
theorem d_M_put_17 : decode c_M_put 17 = .ok (.if_icmp .ge 40, 3) := by decide +kernel
theorem d_M_put_20 : decode c_M_put 20 = .ok (.iload 7, 2) := by decide +kernel
theorem d_M_put_22 : decode c_M_put 22 = .ok (.ifCond .eq 26, 3) := by decide +kernel
theorem d_M_put_25 : decode c_M_put 25 = .ok (.iload_n 1, 1) := by decide +kernel
theorem d_M_put_26 : decode c_M_put 26 = .ok (.iload_n 2, 1) := by decide +kernel
theorem d_M_put_27 : decode c_M_put 27 = .ok (.iload_n 3, 1) := by decide +kernel
theorem d_M_put_28 : decode c_M_put 28 = .ok (.iload 4, 2) := by decide +kernel
theorem d_M_put_30 : decode c_M_put 30 = .ok (.iload 5, 2) := by decide +kernel
theorem d_M_put_32 : decode c_M_put 32 = .ok (.iload 8, 2) := by decide +kernel
theorem d_M_put_34 : decode c_M_put 34 = .ok (.invokestatic 28, 3) := by decide +kernel
theorem d_M_put_37 : decode c_M_put 37 = .ok (.aload_n 0, 1) := by decide +kernel
theorem d_M_put_38 : decode c_M_put 38 = .ok (.getfield 20, 3) := by decide +kernel
theorem d_M_put_41 : decode c_M_put 41 = .ok (.if_icmp .ge 7, 3) := by decide +kernel
theorem d_M_put_44 : decode c_M_put 44 = .ok (.iconst 1, 1) := by decide +kernel
theorem d_M_put_45 : decode c_M_put 45 = .ok (.goto 4, 3) := by decide +kernel
theorem d_M_put_48 : decode c_M_put 48 = .ok (.iconst 0, 1) := by decide +kernel
theorem d_M_put_49 : decode c_M_put 49 = .ok (.istore 7, 2) := by decide +kernel
theorem d_M_put_51 : decode c_M_put 51 = .ok (.iinc 8 1, 3) := by decide +kernel
theorem d_M_put_54 : decode c_M_put 54 = .ok (.goto (-48), 3) := by decide +kernel
theorem d_M_put_57 : decode c_M_put 57 = .ok (.aload_n 0, 1) := by decide +kernel
theorem d_M_put_58 : decode c_M_put 58 = .ok (.iload 7, 2) := by decide +kernel
theorem d_M_put_60 : decode c_M_put 60 = .ok (.ifCond .ne 7, 3) := by decide +kernel
theorem d_M_put_63 : decode c_M_put 63 = .ok (.iconst 1, 1) := by decide +kernel
theorem d_M_put_64 : decode c_M_put 64 = .ok (.goto 38, 3) := by decide +kernel
theorem d_M_put_67 : decode c_M_put 67 = .ok (.iload 6, 2) := by decide +kernel
theorem d_M_put_69 : decode c_M_put 69 = .ok (.iconst 1, 1) := by decide +kernel
theorem d_M_put_70 : decode c_M_put 70 = .ok (.if_icmp .lt 10, 3) := by decide +kernel
theorem d_M_put_73 : decode c_M_put 73 = .ok (.iload 6, 2) := by decide +kernel
theorem d_M_put_75 : decode c_M_put 75 = .ok (.bipush 10, 2) := by decide +kernel
theorem d_M_put_77 : decode c_M_put 77 = .ok (.if_icmp .le 7, 3) := by decide +kernel
theorem d_M_put_80 : decode c_M_put 80 = .ok (.iconst 2, 1) := by decide +kernel
theorem d_M_put_81 : decode c_M_put 81 = .ok (.goto 21, 3) := by decide +kernel
theorem d_M_put_84 : decode c_M_put 84 = .ok (.aload_n 0, 1) := by decide +kernel
theorem d_M_put_85 : decode c_M_put 85 = .ok (.getfield 32, 3) := by decide +kernel
theorem d_M_put_88 : decode c_M_put 88 = .ok (.iload 6, 2) := by decide +kernel
theorem d_M_put_90 : decode c_M_put 90 = .ok (.iadd, 1) := by decide +kernel
theorem d_M_put_91 : decode c_M_put 91 = .ok (.sipush 1000, 3) := by decide +kernel
theorem d_M_put_94 : decode c_M_put 94 = .ok (.if_icmp .le 7, 3) := by decide +kernel
theorem d_M_put_97 : decode c_M_put 97 = .ok (.iconst 3, 1) := by decide +kernel
theorem d_M_put_98 : decode c_M_put 98 = .ok (.goto 4, 3) := by decide +kernel
theorem d_M_put_101 : decode c_M_put 101 = .ok (.iconst 0, 1) := by decide +kernel
theorem d_M_put_102 : decode c_M_put 102 = .ok (.putfield 24, 3) := by decide +kernel
theorem d_M_put_105 : decode c_M_put 105 = .ok (.aload_n 0, 1) := by decide +kernel
theorem d_M_put_106 : decode c_M_put 106 = .ok (.getfield 24, 3) := by decide +kernel
theorem d_M_put_109 : decode c_M_put 109 = .ok (.ifCond .le 5, 3) := by decide +kernel
theorem d_M_put_112 : decode c_M_put 112 = .ok (.iconst 0, 1) := by decide +kernel
theorem d_M_put_113 : decode c_M_put 113 = .ok (.ireturn, 1) := by decide +kernel
theorem d_M_put_114 : decode c_M_put 114 = .ok (.iconst 0, 1) := by decide +kernel
theorem d_M_put_115 : decode c_M_put 115 = .ok (.istore 8, 2) := by decide +kernel
theorem d_M_put_117 : decode c_M_put 117 = .ok (.iload 8, 2) := by decide +kernel
theorem d_M_put_119 : decode c_M_put 119 = .ok (.iload 6, 2) := by decide +kernel
theorem d_M_put_121 : decode c_M_put 121 = .ok (.if_icmp .ge 40, 3) := by decide +kernel
theorem d_M_put_124 : decode c_M_put 124 = .ok (.aload_n 0, 1) := by decide +kernel
theorem d_M_put_125 : decode c_M_put 125 = .ok (.getfield 7, 3) := by decide +kernel
theorem d_M_put_128 : decode c_M_put 128 = .ok (.aload_n 0, 1) := by decide +kernel
theorem d_M_put_129 : decode c_M_put 129 = .ok (.getfield 32, 3) := by decide +kernel
theorem d_M_put_132 : decode c_M_put 132 = .ok (.iload_n 1, 1) := by decide +kernel
theorem d_M_put_133 : decode c_M_put 133 = .ok (.iload_n 2, 1) := by decide +kernel
theorem d_M_put_134 : decode c_M_put 134 = .ok (.iload_n 3, 1) := by decide +kernel
theorem d_M_put_135 : decode c_M_put 135 = .ok (.iload 4, 2) := by decide +kernel
theorem d_M_put_137 : decode c_M_put 137 = .ok (.iload 5, 2) := by decide +kernel
theorem d_M_put_139 : decode c_M_put 139 = .ok (.iload 8, 2) := by decide +kernel
theorem d_M_put_141 : decode c_M_put 141 = .ok (.invokestatic 28, 3) := by decide +kernel
theorem d_M_put_144 : decode c_M_put 144 = .ok (.iastore, 1) := by decide +kernel
theorem d_M_put_145 : decode c_M_put 145 = .ok (.aload_n 0, 1) := by decide +kernel
theorem d_M_put_146 : decode c_M_put 146 = .ok (.dup, 1) := by decide +kernel
theorem d_M_put_147 : decode c_M_put 147 = .ok (.getfield 32, 3) := by decide +kernel
theorem d_M_put_150 : decode c_M_put 150 = .ok (.iconst 1, 1) := by decide +kernel
theorem d_M_put_151 : decode c_M_put 151 = .ok (.iadd, 1) := by decide +kernel
theorem d_M_put_152 : decode c_M_put 152 = .ok (.putfield 32, 3) := by decide +kernel
theorem d_M_put_155 : decode c_M_put 155 = .ok (.iinc 8 1, 3) := by decide +kernel
theorem d_M_put_158 : decode c_M_put 158 = .ok (.goto (-41), 3) := by decide +kernel
theorem d_M_put_161 : decode c_M_put 161 = .ok (.aload_n 0, 1) := by decide +kernel
theorem d_M_put_162 : decode c_M_put 162 = .ok (.getfield 32, 3) := by decide +kernel
theorem d_M_put_165 : decode c_M_put 165 = .ok (.aload_n 0, 1) := by decide +kernel
theorem d_M_put_166 : decode c_M_put 166 = .ok (.getfield 35, 3) := by decide +kernel
theorem d_M_put_169 : decode c_M_put 169 = .ok (.isub, 1) := by decide +kernel
theorem d_M_put_170 : decode c_M_put 170 = .ok (.ireturn, 1) := by decide +kernel
theorem d_M_given_0 : decode c_M_given 0 = .ok (.iload 5, 2) := by decide +kernel
theorem d_M_given_2 : decode c_M_given 2 = .ok (.iconst 2, 1) := by decide +kernel
theorem d_M_given_3 : decode c_M_given 3 = .ok (.if_icmp .ge 7, 3) := by decide +kernel
theorem d_M_given_6 : decode c_M_given 6 = .ok (.iload_n 0, 1) := by decide +kernel
theorem d_M_given_7 : decode c_M_given 7 = .ok (.goto 37, 3) := by decide +kernel
theorem d_M_given_10 : decode c_M_given 10 = .ok (.iload 5, 2) := by decide +kernel
theorem d_M_given_12 : decode c_M_given 12 = .ok (.iconst 4, 1) := by decide +kernel
theorem d_M_given_13 : decode c_M_given 13 = .ok (.if_icmp .ge 7, 3) := by decide +kernel
theorem d_M_given_16 : decode c_M_given 16 = .ok (.iload_n 1, 1) := by decide +kernel
theorem d_M_given_17 : decode c_M_given 17 = .ok (.goto 27, 3) := by decide +kernel
theorem d_M_given_20 : decode c_M_given 20 = .ok (.iload 5, 2) := by decide +kernel
theorem d_M_given_22 : decode c_M_given 22 = .ok (.bipush 6, 2) := by decide +kernel
theorem d_M_given_24 : decode c_M_given 24 = .ok (.if_icmp .ge 7, 3) := by decide +kernel
theorem d_M_given_27 : decode c_M_given 27 = .ok (.iload_n 2, 1) := by decide +kernel
theorem d_M_given_28 : decode c_M_given 28 = .ok (.goto 16, 3) := by decide +kernel
theorem d_M_given_31 : decode c_M_given 31 = .ok (.iload 5, 2) := by decide +kernel
theorem d_M_given_33 : decode c_M_given 33 = .ok (.bipush 8, 2) := by decide +kernel
theorem d_M_given_35 : decode c_M_given 35 = .ok (.if_icmp .ge 7, 3) := by decide +kernel
theorem d_M_given_38 : decode c_M_given 38 = .ok (.iload_n 3, 1) := by decide +kernel
theorem d_M_given_39 : decode c_M_given 39 = .ok (.goto 5, 3) := by decide +kernel
theorem d_M_given_42 : decode c_M_given 42 = .ok (.iload 4, 2) := by decide +kernel
theorem d_M_given_44 : decode c_M_given 44 = .ok (.istore 6, 2) := by decide +kernel
theorem d_M_given_46 : decode c_M_given 46 = .ok (.iload 5, 2) := by decide +kernel
theorem d_M_given_48 : decode c_M_given 48 = .ok (.iconst 2, 1) := by decide +kernel
theorem d_M_given_49 : decode c_M_given 49 = .ok (.irem, 1) := by decide +kernel
theorem d_M_given_50 : decode c_M_given 50 = .ok (.ifCond .ne 11, 3) := by decide +kernel
theorem d_M_given_53 : decode c_M_given 53 = .ok (.iload 6, 2) := by decide +kernel
theorem d_M_given_55 : decode c_M_given 55 = .ok (.bipush 16, 2) := by decide +kernel
theorem d_M_given_57 : decode c_M_given 57 = .ok (.iushr, 1) := by decide +kernel
theorem d_M_given_58 : decode c_M_given 58 = .ok (.goto 8, 3) := by decide +kernel
theorem d_M_given_61 : decode c_M_given 61 = .ok (.iload 6, 2) := by decide +kernel
theorem d_M_given_63 : decode c_M_given 63 = .ok (.ldc 27, 2) := by decide +kernel
theorem d_M_given_65 : decode c_M_given 65 = .ok (.iand, 1) := by decide +kernel
theorem d_M_given_66 : decode c_M_given 66 = .ok (.ireturn, 1) := by decide +kernel
theorem d_M_build_0 : decode c_M_build 0 = .ok (.aload_n 0, 1) := by decide +kernel
theorem d_M_build_1 : decode c_M_build 1 = .ok (.iconst 0, 1) := by decide +kernel
theorem d_M_build_2 : decode c_M_build 2 = .ok (.putfield 24, 3) := by decide +kernel
theorem d_M_build_5 : decode c_M_build 5 = .ok (.aload_n 0, 1) := by decide +kernel
theorem d_M_build_6 : decode c_M_build 6 = .ok (.aload_n 0, 1) := by decide +kernel
theorem d_M_build_7 : decode c_M_build 7 = .ok (.getfield 32, 3) := by decide +kernel
theorem d_M_build_10 : decode c_M_build 10 = .ok (.putfield 35, 3) := by decide +kernel
theorem d_M_build_13 : decode c_M_build 13 = .ok (.aload_n 0, 1) := by decide +kernel
theorem d_M_build_14 : decode c_M_build 14 = .ok (.getfield 35, 3) := by decide +kernel
theorem d_M_build_17 : decode c_M_build 17 = .ok (.ireturn, 1) := by decide +kernel
theorem d_M_clear_0 : decode c_M_clear 0 = .ok (.aload_n 0, 1) := by decide +kernel
theorem d_M_clear_1 : decode c_M_clear 1 = .ok (.iconst 0, 1) := by decide +kernel
theorem d_M_clear_2 : decode c_M_clear 2 = .ok (.putfield 24, 3) := by decide +kernel
theorem d_M_clear_5 : decode c_M_clear 5 = .ok (.aload_n 0, 1) := by decide +kernel
theorem d_M_clear_6 : decode c_M_clear 6 = .ok (.iconst 0, 1) := by decide +kernel
theorem d_M_clear_7 : decode c_M_clear 7 = .ok (.putfield 35, 3) := by decide +kernel
theorem d_M_clear_10 : decode c_M_clear 10 = .ok (.aload_n 0, 1) := by decide +kernel
theorem d_M_clear_11 : decode c_M_clear 11 = .ok (.iconst 0, 1) := by decide +kernel
theorem d_M_clear_12 : decode c_M_clear 12 = .ok (.putfield 32, 3) := by decide +kernel
theorem d_M_clear_15 : decode c_M_clear 15 = .ok (.return_, 1) := by decide +kernel
theorem d_M_at_0 : decode c_M_at 0 = .ok (.aload_n 0, 1) := by decide +kernel
theorem d_M_at_1 : decode c_M_at 1 = .ok (.iload_n 1, 1) := by decide +kernel
theorem d_M_at_2 : decode c_M_at 2 = .ok (.ifCond .lt 15, 3) := by decide +kernel
theorem d_M_at_5 : decode c_M_at 5 = .ok (.iload_n 1, 1) := by decide +kernel
theorem d_M_at_6 : decode c_M_at 6 = .ok (.aload_n 0, 1) := by decide +kernel
theorem d_M_at_7 : decode c_M_at 7 = .ok (.getfield 35, 3) := by decide +kernel
theorem d_M_at_10 : decode c_M_at 10 = .ok (.if_icmp .ge 7, 3) := by decide +kernel
theorem d_M_at_13 : decode c_M_at 13 = .ok (.iconst 0, 1) := by decide +kernel
theorem d_M_at_14 : decode c_M_at 14 = .ok (.goto 4, 3) := by decide +kernel
theorem d_M_at_17 : decode c_M_at 17 = .ok (.iconst 1, 1) := by decide +kernel
theorem d_M_at_18 : decode c_M_at 18 = .ok (.putfield 24, 3) := by decide +kernel
theorem d_M_at_21 : decode c_M_at 21 = .ok (.aload_n 0, 1) := by decide +kernel
theorem d_M_at_22 : decode c_M_at 22 = .ok (.getfield 24, 3) := by decide +kernel
theorem d_M_at_25 : decode c_M_at 25 = .ok (.ifCond .le 7, 3) := by decide +kernel
theorem d_M_at_28 : decode c_M_at 28 = .ok (.iconst 0, 1) := by decide +kernel
theorem d_M_at_29 : decode c_M_at 29 = .ok (.goto 9, 3) := by decide +kernel
theorem d_M_at_32 : decode c_M_at 32 = .ok (.aload_n 0, 1) := by decide +kernel
theorem d_M_at_33 : decode c_M_at 33 = .ok (.getfield 7, 3) := by decide +kernel
theorem d_M_at_36 : decode c_M_at 36 = .ok (.iload_n 1, 1) := by decide +kernel
theorem d_M_at_37 : decode c_M_at 37 = .ok (.iaload, 1) := by decide +kernel
theorem d_M_at_38 : decode c_M_at 38 = .ok (.ireturn, 1) := by decide +kernel
theorem d_M_rank_0 : decode c_M_rank 0 = .ok (.aload_n 0, 1) := by decide +kernel
theorem d_M_rank_1 : decode c_M_rank 1 = .ok (.aload_n 0, 1) := by decide +kernel
theorem d_M_rank_2 : decode c_M_rank 2 = .ok (.iload_n 1, 1) := by decide +kernel
theorem d_M_rank_3 : decode c_M_rank 3 = .ok (.invokevirtual 38, 3) := by decide +kernel
theorem d_M_rank_6 : decode c_M_rank 6 = .ok (.ifCond .eq 19, 3) := by decide +kernel
theorem d_M_rank_9 : decode c_M_rank 9 = .ok (.iload_n 2, 1) := by decide +kernel
theorem d_M_rank_10 : decode c_M_rank 10 = .ok (.ifCond .lt 15, 3) := by decide +kernel
theorem d_M_rank_13 : decode c_M_rank 13 = .ok (.iload_n 2, 1) := by decide +kernel
theorem d_M_rank_14 : decode c_M_rank 14 = .ok (.aload_n 0, 1) := by decide +kernel
theorem d_M_rank_15 : decode c_M_rank 15 = .ok (.getfield 35, 3) := by decide +kernel
theorem d_M_rank_18 : decode c_M_rank 18 = .ok (.if_icmp .gt 7, 3) := by decide +kernel
theorem d_M_rank_21 : decode c_M_rank 21 = .ok (.iconst 0, 1) := by decide +kernel
theorem d_M_rank_22 : decode c_M_rank 22 = .ok (.goto 4, 3) := by decide +kernel
theorem d_M_rank_25 : decode c_M_rank 25 = .ok (.iconst 1, 1) := by decide +kernel
theorem d_M_rank_26 : decode c_M_rank 26 = .ok (.putfield 24, 3) := by decide +kernel
theorem d_M_rank_29 : decode c_M_rank 29 = .ok (.iconst 0, 1) := by decide +kernel
theorem d_M_rank_30 : decode c_M_rank 30 = .ok (.istore_n 3, 1) := by decide +kernel
theorem d_M_rank_31 : decode c_M_rank 31 = .ok (.iconst 0, 1) := by decide +kernel
theorem d_M_rank_32 : decode c_M_rank 32 = .ok (.istore 4, 2) := by decide +kernel
theorem d_M_rank_34 : decode c_M_rank 34 = .ok (.iload 4, 2) := by decide +kernel
theorem d_M_rank_36 : decode c_M_rank 36 = .ok (.iload_n 2, 1) := by decide +kernel
theorem d_M_rank_37 : decode c_M_rank 37 = .ok (.if_icmp .ge 35, 3) := by decide +kernel
theorem d_M_rank_40 : decode c_M_rank 40 = .ok (.aload_n 0, 1) := by decide +kernel
theorem d_M_rank_41 : decode c_M_rank 41 = .ok (.getfield 24, 3) := by decide +kernel
theorem d_M_rank_44 : decode c_M_rank 44 = .ok (.ifCond .ne 28, 3) := by decide +kernel
theorem d_M_rank_47 : decode c_M_rank 47 = .ok (.aload_n 0, 1) := by decide +kernel
theorem d_M_rank_48 : decode c_M_rank 48 = .ok (.getfield 7, 3) := by decide +kernel
theorem d_M_rank_51 : decode c_M_rank 51 = .ok (.iload 4, 2) := by decide +kernel
theorem d_M_rank_53 : decode c_M_rank 53 = .ok (.iaload, 1) := by decide +kernel
theorem d_M_rank_54 : decode c_M_rank 54 = .ok (.iload_n 1, 1) := by decide +kernel
theorem d_M_rank_55 : decode c_M_rank 55 = .ok (.if_icmp .ne 9, 3) := by decide +kernel
theorem d_M_rank_58 : decode c_M_rank 58 = .ok (.iload_n 3, 1) := by decide +kernel
theorem d_M_rank_59 : decode c_M_rank 59 = .ok (.iconst 1, 1) := by decide +kernel
theorem d_M_rank_60 : decode c_M_rank 60 = .ok (.iadd, 1) := by decide +kernel
theorem d_M_rank_61 : decode c_M_rank 61 = .ok (.goto 4, 3) := by decide +kernel
theorem d_M_rank_64 : decode c_M_rank 64 = .ok (.iload_n 3, 1) := by decide +kernel
theorem d_M_rank_65 : decode c_M_rank 65 = .ok (.istore_n 3, 1) := by decide +kernel
theorem d_M_rank_66 : decode c_M_rank 66 = .ok (.iinc 4 1, 3) := by decide +kernel
theorem d_M_rank_69 : decode c_M_rank 69 = .ok (.goto (-35), 3) := by decide +kernel
theorem d_M_rank_72 : decode c_M_rank 72 = .ok (.iload_n 3, 1) := by decide +kernel
theorem d_M_rank_73 : decode c_M_rank 73 = .ok (.ireturn, 1) := by decide +kernel
theorem d_M_isSymbol_0 : decode c_M_isSymbol 0 = .ok (.iload_n 1, 1) := by decide +kernel
theorem d_M_isSymbol_1 : decode c_M_isSymbol 1 = .ok (.ifCond .lt 15, 3) := by decide +kernel
theorem d_M_isSymbol_4 : decode c_M_isSymbol 4 = .ok (.iload_n 1, 1) := by decide +kernel
theorem d_M_isSymbol_5 : decode c_M_isSymbol 5 = .ok (.aload_n 0, 1) := by decide +kernel
theorem d_M_isSymbol_6 : decode c_M_isSymbol 6 = .ok (.getfield 20, 3) := by decide +kernel
theorem d_M_isSymbol_9 : decode c_M_isSymbol 9 = .ok (.if_icmp .ge 7, 3) := by decide +kernel
theorem d_M_isSymbol_12 : decode c_M_isSymbol 12 = .ok (.iconst 1, 1) := by decide +kernel
theorem d_M_isSymbol_13 : decode c_M_isSymbol 13 = .ok (.goto 4, 3) := by decide +kernel
theorem d_M_isSymbol_16 : decode c_M_isSymbol 16 = .ok (.iconst 0, 1) := by decide +kernel
theorem d_M_isSymbol_17 : decode c_M_isSymbol 17 = .ok (.ireturn, 1) := by decide +kernel
theorem d_M_select_0 : decode c_M_select 0 = .ok (.aload_n 0, 1) := by decide +kernel
theorem d_M_select_1 : decode c_M_select 1 = .ok (.aload_n 0, 1) := by decide +kernel
theorem d_M_select_2 : decode c_M_select 2 = .ok (.iload_n 1, 1) := by decide +kernel
theorem d_M_select_3 : decode c_M_select 3 = .ok (.invokevirtual 38, 3) := by decide +kernel
theorem d_M_select_6 : decode c_M_select 6 = .ok (.ifCond .eq 11, 3) := by decide +kernel
theorem d_M_select_9 : decode c_M_select 9 = .ok (.iload_n 2, 1) := by decide +kernel
theorem d_M_select_10 : decode c_M_select 10 = .ok (.ifCond .lt 7, 3) := by decide +kernel
theorem d_M_select_13 : decode c_M_select 13 = .ok (.iconst 0, 1) := by decide +kernel
theorem d_M_select_14 : decode c_M_select 14 = .ok (.goto 4, 3) := by decide +kernel
theorem d_M_select_17 : decode c_M_select 17 = .ok (.iconst 1, 1) := by decide +kernel
theorem d_M_select_18 : decode c_M_select 18 = .ok (.putfield 24, 3) := by decide +kernel
theorem d_M_select_21 : decode c_M_select 21 = .ok (.iload_n 2, 1) := by decide +kernel
theorem d_M_select_22 : decode c_M_select 22 = .ok (.istore_n 3, 1) := by decide +kernel
theorem d_M_select_23 : decode c_M_select 23 = .ok (.iconst 0, 1) := by decide +kernel
theorem d_M_select_24 : decode c_M_select 24 = .ok (.istore 4, 2) := by decide +kernel
theorem d_M_select_26 : decode c_M_select 26 = .ok (.iload 4, 2) := by decide +kernel
theorem d_M_select_28 : decode c_M_select 28 = .ok (.aload_n 0, 1) := by decide +kernel
theorem d_M_select_29 : decode c_M_select 29 = .ok (.getfield 35, 3) := by decide +kernel
theorem d_M_select_32 : decode c_M_select 32 = .ok (.if_icmp .ge 37, 3) := by decide +kernel
theorem d_M_select_35 : decode c_M_select 35 = .ok (.aload_n 0, 1) := by decide +kernel
theorem d_M_select_36 : decode c_M_select 36 = .ok (.getfield 24, 3) := by decide +kernel
theorem d_M_select_39 : decode c_M_select 39 = .ok (.ifCond .ne 30, 3) := by decide +kernel
theorem d_M_select_42 : decode c_M_select 42 = .ok (.aload_n 0, 1) := by decide +kernel
theorem d_M_select_43 : decode c_M_select 43 = .ok (.getfield 7, 3) := by decide +kernel
theorem d_M_select_46 : decode c_M_select 46 = .ok (.iload 4, 2) := by decide +kernel
theorem d_M_select_48 : decode c_M_select 48 = .ok (.iaload, 1) := by decide +kernel
theorem d_M_select_49 : decode c_M_select 49 = .ok (.iload_n 1, 1) := by decide +kernel
theorem d_M_select_50 : decode c_M_select 50 = .ok (.if_icmp .ne 13, 3) := by decide +kernel
theorem d_M_select_53 : decode c_M_select 53 = .ok (.iload_n 3, 1) := by decide +kernel
theorem d_M_select_54 : decode c_M_select 54 = .ok (.ifCond .ne 6, 3) := by decide +kernel
theorem d_M_select_57 : decode c_M_select 57 = .ok (.iload 4, 2) := by decide +kernel
theorem d_M_select_59 : decode c_M_select 59 = .ok (.ireturn, 1) := by decide +kernel
theorem d_M_select_60 : decode c_M_select 60 = .ok (.iinc 3 (-1), 3) := by decide +kernel
theorem d_M_select_63 : decode c_M_select 63 = .ok (.iinc 4 1, 3) := by decide +kernel
theorem d_M_select_66 : decode c_M_select 66 = .ok (.goto (-40), 3) := by decide +kernel
theorem d_M_select_69 : decode c_M_select 69 = .ok (.aload_n 0, 1) := by decide +kernel
theorem d_M_select_70 : decode c_M_select 70 = .ok (.getfield 24, 3) := by decide +kernel
theorem d_M_select_73 : decode c_M_select 73 = .ok (.ifCond .le 7, 3) := by decide +kernel
theorem d_M_select_76 : decode c_M_select 76 = .ok (.iconst 0, 1) := by decide +kernel
theorem d_M_select_77 : decode c_M_select 77 = .ok (.goto 4, 3) := by decide +kernel
theorem d_M_select_80 : decode c_M_select 80 = .ok (.iconst (-1), 1) := by decide +kernel
theorem d_M_select_81 : decode c_M_select 81 = .ok (.ireturn, 1) := by decide +kernel
theorem d_M_quantile_0 : decode c_M_quantile 0 = .ok (.aload_n 0, 1) := by decide +kernel
theorem d_M_quantile_1 : decode c_M_quantile 1 = .ok (.aload_n 0, 1) := by decide +kernel
theorem d_M_quantile_2 : decode c_M_quantile 2 = .ok (.iload_n 1, 1) := by decide +kernel
theorem d_M_quantile_3 : decode c_M_quantile 3 = .ok (.iload_n 2, 1) := by decide +kernel
theorem d_M_quantile_4 : decode c_M_quantile 4 = .ok (.invokevirtual 42, 3) := by decide +kernel
theorem d_M_quantile_7 : decode c_M_quantile 7 = .ok (.ifCond .eq 18, 3) := by decide +kernel
theorem d_M_quantile_10 : decode c_M_quantile 10 = .ok (.iload_n 3, 1) := by decide +kernel
theorem d_M_quantile_11 : decode c_M_quantile 11 = .ok (.ifCond .lt 14, 3) := by decide +kernel
theorem d_M_quantile_14 : decode c_M_quantile 14 = .ok (.iload_n 3, 1) := by decide +kernel
theorem d_M_quantile_15 : decode c_M_quantile 15 = .ok (.iload_n 2, 1) := by decide +kernel
theorem d_M_quantile_16 : decode c_M_quantile 16 = .ok (.iload_n 1, 1) := by decide +kernel
theorem d_M_quantile_17 : decode c_M_quantile 17 = .ok (.isub, 1) := by decide +kernel
theorem d_M_quantile_18 : decode c_M_quantile 18 = .ok (.if_icmp .ge 7, 3) := by decide +kernel
theorem d_M_quantile_21 : decode c_M_quantile 21 = .ok (.iconst 0, 1) := by decide +kernel
theorem d_M_quantile_22 : decode c_M_quantile 22 = .ok (.goto 4, 3) := by decide +kernel
theorem d_M_quantile_25 : decode c_M_quantile 25 = .ok (.iconst 1, 1) := by decide +kernel
theorem d_M_quantile_26 : decode c_M_quantile 26 = .ok (.putfield 24, 3) := by decide +kernel
theorem d_M_quantile_29 : decode c_M_quantile 29 = .ok (.aload_n 0, 1) := by decide +kernel
theorem d_M_quantile_30 : decode c_M_quantile 30 = .ok (.getfield 24, 3) := by decide +kernel
theorem d_M_quantile_33 : decode c_M_quantile 33 = .ok (.ifCond .le 5, 3) := by decide +kernel
theorem d_M_quantile_36 : decode c_M_quantile 36 = .ok (.iconst 0, 1) := by decide +kernel
theorem d_M_quantile_37 : decode c_M_quantile 37 = .ok (.ireturn, 1) := by decide +kernel
theorem d_M_quantile_38 : decode c_M_quantile 38 = .ok (.aload_n 0, 1) := by decide +kernel
theorem d_M_quantile_39 : decode c_M_quantile 39 = .ok (.iload_n 1, 1) := by decide +kernel
theorem d_M_quantile_40 : decode c_M_quantile 40 = .ok (.iload_n 2, 1) := by decide +kernel
theorem d_M_quantile_41 : decode c_M_quantile 41 = .ok (.invokevirtual 46, 3) := by decide +kernel
theorem d_M_quantile_44 : decode c_M_quantile 44 = .ok (.pop, 1) := by decide +kernel
theorem d_M_quantile_45 : decode c_M_quantile 45 = .ok (.iconst 0, 1) := by decide +kernel
theorem d_M_quantile_46 : decode c_M_quantile 46 = .ok (.istore 4, 2) := by decide +kernel
theorem d_M_quantile_48 : decode c_M_quantile 48 = .ok (.aload_n 0, 1) := by decide +kernel
theorem d_M_quantile_49 : decode c_M_quantile 49 = .ok (.getfield 16, 3) := by decide +kernel
theorem d_M_quantile_52 : decode c_M_quantile 52 = .ok (.iconst 0, 1) := by decide +kernel
theorem d_M_quantile_53 : decode c_M_quantile 53 = .ok (.iaload, 1) := by decide +kernel
theorem d_M_quantile_54 : decode c_M_quantile 54 = .ok (.istore 5, 2) := by decide +kernel
theorem d_M_quantile_56 : decode c_M_quantile 56 = .ok (.iload 5, 2) := by decide +kernel
theorem d_M_quantile_58 : decode c_M_quantile 58 = .ok (.iload_n 3, 1) := by decide +kernel
theorem d_M_quantile_59 : decode c_M_quantile 59 = .ok (.if_icmp .gt 21, 3) := by decide +kernel
theorem d_M_quantile_62 : decode c_M_quantile 62 = .ok (.iinc 4 1, 3) := by decide +kernel
theorem d_M_quantile_65 : decode c_M_quantile 65 = .ok (.iload 5, 2) := by decide +kernel
theorem d_M_quantile_67 : decode c_M_quantile 67 = .ok (.aload_n 0, 1) := by decide +kernel
theorem d_M_quantile_68 : decode c_M_quantile 68 = .ok (.getfield 16, 3) := by decide +kernel
theorem d_M_quantile_71 : decode c_M_quantile 71 = .ok (.iload 4, 2) := by decide +kernel
theorem d_M_quantile_73 : decode c_M_quantile 73 = .ok (.iaload, 1) := by decide +kernel
theorem d_M_quantile_74 : decode c_M_quantile 74 = .ok (.iadd, 1) := by decide +kernel
theorem d_M_quantile_75 : decode c_M_quantile 75 = .ok (.istore 5, 2) := by decide +kernel
theorem d_M_quantile_77 : decode c_M_quantile 77 = .ok (.goto (-21), 3) := by decide +kernel
theorem d_M_quantile_80 : decode c_M_quantile 80 = .ok (.aload_n 0, 1) := by decide +kernel
theorem d_M_quantile_81 : decode c_M_quantile 81 = .ok (.getfield 13, 3) := by decide +kernel
theorem d_M_quantile_84 : decode c_M_quantile 84 = .ok (.iload 4, 2) := by decide +kernel
theorem d_M_quantile_86 : decode c_M_quantile 86 = .ok (.iaload, 1) := by decide +kernel
theorem d_M_quantile_87 : decode c_M_quantile 87 = .ok (.ireturn, 1) := by decide +kernel
theorem d_M_isPart_0 : decode c_M_isPart 0 = .ok (.iload_n 1, 1) := by decide +kernel
theorem d_M_isPart_1 : decode c_M_isPart 1 = .ok (.ifCond .lt 20, 3) := by decide +kernel
theorem d_M_isPart_4 : decode c_M_isPart 4 = .ok (.iload_n 1, 1) := by decide +kernel
theorem d_M_isPart_5 : decode c_M_isPart 5 = .ok (.iload_n 2, 1) := by decide +kernel
theorem d_M_isPart_6 : decode c_M_isPart 6 = .ok (.if_icmp .gt 15, 3) := by decide +kernel
theorem d_M_isPart_9 : decode c_M_isPart 9 = .ok (.iload_n 2, 1) := by decide +kernel
theorem d_M_isPart_10 : decode c_M_isPart 10 = .ok (.aload_n 0, 1) := by decide +kernel
theorem d_M_isPart_11 : decode c_M_isPart 11 = .ok (.getfield 35, 3) := by decide +kernel
theorem d_M_isPart_14 : decode c_M_isPart 14 = .ok (.if_icmp .gt 7, 3) := by decide +kernel
theorem d_M_isPart_17 : decode c_M_isPart 17 = .ok (.iconst 1, 1) := by decide +kernel
theorem d_M_isPart_18 : decode c_M_isPart 18 = .ok (.goto 4, 3) := by decide +kernel
theorem d_M_isPart_21 : decode c_M_isPart 21 = .ok (.iconst 0, 1) := by decide +kernel
theorem d_M_isPart_22 : decode c_M_isPart 22 = .ok (.ireturn, 1) := by decide +kernel
theorem d_M_gather_0 : decode c_M_gather 0 = .ok (.iconst 0, 1) := by decide +kernel
theorem d_M_gather_1 : decode c_M_gather 1 = .ok (.istore_n 3, 1) := by decide +kernel
theorem d_M_gather_2 : decode c_M_gather 2 = .ok (.iload_n 1, 1) := by decide +kernel
theorem d_M_gather_3 : decode c_M_gather 3 = .ok (.istore 4, 2) := by decide +kernel
theorem d_M_gather_5 : decode c_M_gather 5 = .ok (.iload 4, 2) := by decide +kernel
theorem d_M_gather_7 : decode c_M_gather 7 = .ok (.iload_n 2, 1) := by decide +kernel
theorem d_M_gather_8 : decode c_M_gather 8 = .ok (.if_icmp .ge 151, 3) := by decide +kernel
theorem d_M_gather_11 : decode c_M_gather 11 = .ok (.iconst 0, 1) := by decide +kernel
theorem d_M_gather_12 : decode c_M_gather 12 = .ok (.istore 5, 2) := by decide +kernel
theorem d_M_gather_14 : decode c_M_gather 14 = .ok (.iload 5, 2) := by decide +kernel
theorem d_M_gather_16 : decode c_M_gather 16 = .ok (.iload_n 3, 1) := by decide +kernel
theorem d_M_gather_17 : decode c_M_gather 17 = .ok (.if_icmp .ge 26, 3) := by decide +kernel
theorem d_M_gather_20 : decode c_M_gather 20 = .ok (.aload_n 0, 1) := by decide +kernel
theorem d_M_gather_21 : decode c_M_gather 21 = .ok (.getfield 13, 3) := by decide +kernel
theorem d_M_gather_24 : decode c_M_gather 24 = .ok (.iload 5, 2) := by decide +kernel
theorem d_M_gather_26 : decode c_M_gather 26 = .ok (.iaload, 1) := by decide +kernel
theorem d_M_gather_27 : decode c_M_gather 27 = .ok (.aload_n 0, 1) := by decide +kernel
theorem d_M_gather_28 : decode c_M_gather 28 = .ok (.getfield 7, 3) := by decide +kernel
theorem d_M_gather_31 : decode c_M_gather 31 = .ok (.iload 4, 2) := by decide +kernel
theorem d_M_gather_33 : decode c_M_gather 33 = .ok (.iaload, 1) := by decide +kernel
theorem d_M_gather_34 : decode c_M_gather 34 = .ok (.if_icmp .ge 9, 3) := by decide +kernel
theorem d_M_gather_37 : decode c_M_gather 37 = .ok (.iinc 5 1, 3) := by decide +kernel
theorem d_M_gather_40 : decode c_M_gather 40 = .ok (.goto (-26), 3) := by decide +kernel
theorem d_M_gather_43 : decode c_M_gather 43 = .ok (.iload 5, 2) := by decide +kernel
theorem d_M_gather_45 : decode c_M_gather 45 = .ok (.iload_n 3, 1) := by decide +kernel
theorem d_M_gather_46 : decode c_M_gather 46 = .ok (.if_icmp .ge 34, 3) := by decide +kernel
theorem d_M_gather_49 : decode c_M_gather 49 = .ok (.aload_n 0, 1) := by decide +kernel
theorem d_M_gather_50 : decode c_M_gather 50 = .ok (.getfield 13, 3) := by decide +kernel
theorem d_M_gather_53 : decode c_M_gather 53 = .ok (.iload 5, 2) := by decide +kernel
theorem d_M_gather_55 : decode c_M_gather 55 = .ok (.iaload, 1) := by decide +kernel
theorem d_M_gather_56 : decode c_M_gather 56 = .ok (.aload_n 0, 1) := by decide +kernel
theorem d_M_gather_57 : decode c_M_gather 57 = .ok (.getfield 7, 3) := by decide +kernel
theorem d_M_gather_60 : decode c_M_gather 60 = .ok (.iload 4, 2) := by decide +kernel
theorem d_M_gather_62 : decode c_M_gather 62 = .ok (.iaload, 1) := by decide +kernel
theorem d_M_gather_63 : decode c_M_gather 63 = .ok (.if_icmp .ne 17, 3) := by decide +kernel
theorem d_M_gather_66 : decode c_M_gather 66 = .ok (.aload_n 0, 1) := by decide +kernel
theorem d_M_gather_67 : decode c_M_gather 67 = .ok (.getfield 16, 3) := by decide +kernel
theorem d_M_gather_70 : decode c_M_gather 70 = .ok (.iload 5, 2) := by decide +kernel
theorem d_M_gather_72 : decode c_M_gather 72 = .ok (.dup2, 1) := by decide +kernel
theorem d_M_gather_73 : decode c_M_gather 73 = .ok (.iaload, 1) := by decide +kernel
theorem d_M_gather_74 : decode c_M_gather 74 = .ok (.iconst 1, 1) := by decide +kernel
theorem d_M_gather_75 : decode c_M_gather 75 = .ok (.iadd, 1) := by decide +kernel
theorem d_M_gather_76 : decode c_M_gather 76 = .ok (.iastore, 1) := by decide +kernel
theorem d_M_gather_77 : decode c_M_gather 77 = .ok (.goto 76, 3) := by decide +kernel
theorem d_M_gather_80 : decode c_M_gather 80 = .ok (.iload_n 3, 1) := by decide +kernel
theorem d_M_gather_81 : decode c_M_gather 81 = .ok (.istore 6, 2) := by decide +kernel
theorem d_M_gather_83 : decode c_M_gather 83 = .ok (.iload 6, 2) := by decide +kernel
theorem d_M_gather_85 : decode c_M_gather 85 = .ok (.iload 5, 2) := by decide +kernel
theorem d_M_gather_87 : decode c_M_gather 87 = .ok (.if_icmp .le 41, 3) := by decide +kernel
theorem d_M_gather_90 : decode c_M_gather 90 = .ok (.aload_n 0, 1) := by decide +kernel
theorem d_M_gather_91 : decode c_M_gather 91 = .ok (.getfield 13, 3) := by decide +kernel
theorem d_M_gather_94 : decode c_M_gather 94 = .ok (.iload 6, 2) := by decide +kernel
theorem d_M_gather_96 : decode c_M_gather 96 = .ok (.aload_n 0, 1) := by decide +kernel
theorem d_M_gather_97 : decode c_M_gather 97 = .ok (.getfield 13, 3) := by decide +kernel
theorem d_M_gather_100 : decode c_M_gather 100 = .ok (.iload 6, 2) := by decide +kernel
theorem d_M_gather_102 : decode c_M_gather 102 = .ok (.iconst 1, 1) := by decide +kernel
theorem d_M_gather_103 : decode c_M_gather 103 = .ok (.isub, 1) := by decide +kernel
theorem d_M_gather_104 : decode c_M_gather 104 = .ok (.iaload, 1) := by decide +kernel
theorem d_M_gather_105 : decode c_M_gather 105 = .ok (.iastore, 1) := by decide +kernel
theorem d_M_gather_106 : decode c_M_gather 106 = .ok (.aload_n 0, 1) := by decide +kernel
theorem d_M_gather_107 : decode c_M_gather 107 = .ok (.getfield 16, 3) := by decide +kernel
theorem d_M_gather_110 : decode c_M_gather 110 = .ok (.iload 6, 2) := by decide +kernel
theorem d_M_gather_112 : decode c_M_gather 112 = .ok (.aload_n 0, 1) := by decide +kernel
theorem d_M_gather_113 : decode c_M_gather 113 = .ok (.getfield 16, 3) := by decide +kernel
theorem d_M_gather_116 : decode c_M_gather 116 = .ok (.iload 6, 2) := by decide +kernel
theorem d_M_gather_118 : decode c_M_gather 118 = .ok (.iconst 1, 1) := by decide +kernel
theorem d_M_gather_119 : decode c_M_gather 119 = .ok (.isub, 1) := by decide +kernel
theorem d_M_gather_120 : decode c_M_gather 120 = .ok (.iaload, 1) := by decide +kernel
theorem d_M_gather_121 : decode c_M_gather 121 = .ok (.iastore, 1) := by decide +kernel
theorem d_M_gather_122 : decode c_M_gather 122 = .ok (.iinc 6 (-1), 3) := by decide +kernel
theorem d_M_gather_125 : decode c_M_gather 125 = .ok (.goto (-42), 3) := by decide +kernel
theorem d_M_gather_128 : decode c_M_gather 128 = .ok (.aload_n 0, 1) := by decide +kernel
theorem d_M_gather_129 : decode c_M_gather 129 = .ok (.getfield 13, 3) := by decide +kernel
theorem d_M_gather_132 : decode c_M_gather 132 = .ok (.iload 5, 2) := by decide +kernel
theorem d_M_gather_134 : decode c_M_gather 134 = .ok (.aload_n 0, 1) := by decide +kernel
theorem d_M_gather_135 : decode c_M_gather 135 = .ok (.getfield 7, 3) := by decide +kernel
theorem d_M_gather_138 : decode c_M_gather 138 = .ok (.iload 4, 2) := by decide +kernel
theorem d_M_gather_140 : decode c_M_gather 140 = .ok (.iaload, 1) := by decide +kernel
theorem d_M_gather_141 : decode c_M_gather 141 = .ok (.iastore, 1) := by decide +kernel
theorem d_M_gather_142 : decode c_M_gather 142 = .ok (.aload_n 0, 1) := by decide +kernel
theorem d_M_gather_143 : decode c_M_gather 143 = .ok (.getfield 16, 3) := by decide +kernel
theorem d_M_gather_146 : decode c_M_gather 146 = .ok (.iload 5, 2) := by decide +kernel
theorem d_M_gather_148 : decode c_M_gather 148 = .ok (.iconst 1, 1) := by decide +kernel
theorem d_M_gather_149 : decode c_M_gather 149 = .ok (.iastore, 1) := by decide +kernel
theorem d_M_gather_150 : decode c_M_gather 150 = .ok (.iinc 3 1, 3) := by decide +kernel
theorem d_M_gather_153 : decode c_M_gather 153 = .ok (.iinc 4 1, 3) := by decide +kernel
theorem d_M_gather_156 : decode c_M_gather 156 = .ok (.goto (-151), 3) := by decide +kernel
theorem d_M_gather_159 : decode c_M_gather 159 = .ok (.iload_n 3, 1) := by decide +kernel
theorem d_M_gather_160 : decode c_M_gather 160 = .ok (.ireturn, 1) := by decide +kernel
theorem d_M_between_0 : decode c_M_between 0 = .ok (.aload_n 0, 1) := by decide +kernel
theorem d_M_between_1 : decode c_M_between 1 = .ok (.aload_n 0, 1) := by decide +kernel
theorem d_M_between_2 : decode c_M_between 2 = .ok (.iload_n 1, 1) := by decide +kernel
theorem d_M_between_3 : decode c_M_between 3 = .ok (.iload_n 2, 1) := by decide +kernel
theorem d_M_between_4 : decode c_M_between 4 = .ok (.invokevirtual 42, 3) := by decide +kernel
theorem d_M_between_7 : decode c_M_between 7 = .ok (.ifCond .eq 7, 3) := by decide +kernel
theorem d_M_between_10 : decode c_M_between 10 = .ok (.iconst 0, 1) := by decide +kernel
theorem d_M_between_11 : decode c_M_between 11 = .ok (.goto 4, 3) := by decide +kernel
theorem d_M_between_14 : decode c_M_between 14 = .ok (.iconst 1, 1) := by decide +kernel
theorem d_M_between_15 : decode c_M_between 15 = .ok (.putfield 24, 3) := by decide +kernel
theorem d_M_between_18 : decode c_M_between 18 = .ok (.iconst 0, 1) := by decide +kernel
theorem d_M_between_19 : decode c_M_between 19 = .ok (.istore 5, 2) := by decide +kernel
theorem d_M_between_21 : decode c_M_between 21 = .ok (.iload_n 1, 1) := by decide +kernel
theorem d_M_between_22 : decode c_M_between 22 = .ok (.istore 6, 2) := by decide +kernel
theorem d_M_between_24 : decode c_M_between 24 = .ok (.iload 6, 2) := by decide +kernel
theorem d_M_between_26 : decode c_M_between 26 = .ok (.iload_n 2, 1) := by decide +kernel
theorem d_M_between_27 : decode c_M_between 27 = .ok (.if_icmp .ge 50, 3) := by decide +kernel
theorem d_M_between_30 : decode c_M_between 30 = .ok (.aload_n 0, 1) := by decide +kernel
theorem d_M_between_31 : decode c_M_between 31 = .ok (.getfield 24, 3) := by decide +kernel
theorem d_M_between_34 : decode c_M_between 34 = .ok (.ifCond .ne 43, 3) := by decide +kernel
theorem d_M_between_37 : decode c_M_between 37 = .ok (.aload_n 0, 1) := by decide +kernel
theorem d_M_between_38 : decode c_M_between 38 = .ok (.getfield 7, 3) := by decide +kernel
theorem d_M_between_41 : decode c_M_between 41 = .ok (.iload 6, 2) := by decide +kernel
theorem d_M_between_43 : decode c_M_between 43 = .ok (.iaload, 1) := by decide +kernel
theorem d_M_between_44 : decode c_M_between 44 = .ok (.iload_n 3, 1) := by decide +kernel
theorem d_M_between_45 : decode c_M_between 45 = .ok (.if_icmp .lt 22, 3) := by decide +kernel
theorem d_M_between_48 : decode c_M_between 48 = .ok (.aload_n 0, 1) := by decide +kernel
theorem d_M_between_49 : decode c_M_between 49 = .ok (.getfield 7, 3) := by decide +kernel
theorem d_M_between_52 : decode c_M_between 52 = .ok (.iload 6, 2) := by decide +kernel
theorem d_M_between_54 : decode c_M_between 54 = .ok (.iaload, 1) := by decide +kernel
theorem d_M_between_55 : decode c_M_between 55 = .ok (.iload 4, 2) := by decide +kernel
theorem d_M_between_57 : decode c_M_between 57 = .ok (.if_icmp .ge 10, 3) := by decide +kernel
theorem d_M_between_60 : decode c_M_between 60 = .ok (.iload 5, 2) := by decide +kernel
theorem d_M_between_62 : decode c_M_between 62 = .ok (.iconst 1, 1) := by decide +kernel
theorem d_M_between_63 : decode c_M_between 63 = .ok (.iadd, 1) := by decide +kernel
theorem d_M_between_64 : decode c_M_between 64 = .ok (.goto 5, 3) := by decide +kernel
theorem d_M_between_67 : decode c_M_between 67 = .ok (.iload 5, 2) := by decide +kernel
theorem d_M_between_69 : decode c_M_between 69 = .ok (.istore 5, 2) := by decide +kernel
theorem d_M_between_71 : decode c_M_between 71 = .ok (.iinc 6 1, 3) := by decide +kernel
theorem d_M_between_74 : decode c_M_between 74 = .ok (.goto (-50), 3) := by decide +kernel
theorem d_M_between_77 : decode c_M_between 77 = .ok (.iload 5, 2) := by decide +kernel
theorem d_M_between_79 : decode c_M_between 79 = .ok (.ireturn, 1) := by decide +kernel
theorem d_M_below_0 : decode c_M_below 0 = .ok (.aload_n 0, 1) := by decide +kernel
theorem d_M_below_1 : decode c_M_below 1 = .ok (.aload_n 0, 1) := by decide +kernel
theorem d_M_below_2 : decode c_M_below 2 = .ok (.iload_n 1, 1) := by decide +kernel
theorem d_M_below_3 : decode c_M_below 3 = .ok (.iload_n 2, 1) := by decide +kernel
theorem d_M_below_4 : decode c_M_below 4 = .ok (.invokevirtual 42, 3) := by decide +kernel
theorem d_M_below_7 : decode c_M_below 7 = .ok (.ifCond .eq 7, 3) := by decide +kernel
theorem d_M_below_10 : decode c_M_below 10 = .ok (.iconst 0, 1) := by decide +kernel
theorem d_M_below_11 : decode c_M_below 11 = .ok (.goto 4, 3) := by decide +kernel
theorem d_M_below_14 : decode c_M_below 14 = .ok (.iconst 1, 1) := by decide +kernel
theorem d_M_below_15 : decode c_M_below 15 = .ok (.putfield 24, 3) := by decide +kernel
theorem d_M_below_18 : decode c_M_below 18 = .ok (.iconst (-1), 1) := by decide +kernel
theorem d_M_below_19 : decode c_M_below 19 = .ok (.istore 4, 2) := by decide +kernel
theorem d_M_below_21 : decode c_M_below 21 = .ok (.iload_n 1, 1) := by decide +kernel
theorem d_M_below_22 : decode c_M_below 22 = .ok (.istore 5, 2) := by decide +kernel
theorem d_M_below_24 : decode c_M_below 24 = .ok (.iload 5, 2) := by decide +kernel
theorem d_M_below_26 : decode c_M_below 26 = .ok (.iload_n 2, 1) := by decide +kernel
theorem d_M_below_27 : decode c_M_below 27 = .ok (.if_icmp .ge 53, 3) := by decide +kernel
theorem d_M_below_30 : decode c_M_below 30 = .ok (.aload_n 0, 1) := by decide +kernel
theorem d_M_below_31 : decode c_M_below 31 = .ok (.getfield 24, 3) := by decide +kernel
theorem d_M_below_34 : decode c_M_below 34 = .ok (.ifCond .ne 46, 3) := by decide +kernel
theorem d_M_below_37 : decode c_M_below 37 = .ok (.aload_n 0, 1) := by decide +kernel
theorem d_M_below_38 : decode c_M_below 38 = .ok (.getfield 7, 3) := by decide +kernel
theorem d_M_below_41 : decode c_M_below 41 = .ok (.iload 5, 2) := by decide +kernel
theorem d_M_below_43 : decode c_M_below 43 = .ok (.iaload, 1) := by decide +kernel
theorem d_M_below_44 : decode c_M_below 44 = .ok (.iload_n 3, 1) := by decide +kernel
theorem d_M_below_45 : decode c_M_below 45 = .ok (.if_icmp .ge 25, 3) := by decide +kernel
theorem d_M_below_48 : decode c_M_below 48 = .ok (.aload_n 0, 1) := by decide +kernel
theorem d_M_below_49 : decode c_M_below 49 = .ok (.getfield 7, 3) := by decide +kernel
theorem d_M_below_52 : decode c_M_below 52 = .ok (.iload 5, 2) := by decide +kernel
theorem d_M_below_54 : decode c_M_below 54 = .ok (.iaload, 1) := by decide +kernel
theorem d_M_below_55 : decode c_M_below 55 = .ok (.iload 4, 2) := by decide +kernel
theorem d_M_below_57 : decode c_M_below 57 = .ok (.if_icmp .le 13, 3) := by decide +kernel
theorem d_M_below_60 : decode c_M_below 60 = .ok (.aload_n 0, 1) := by decide +kernel
theorem d_M_below_61 : decode c_M_below 61 = .ok (.getfield 7, 3) := by decide +kernel
theorem d_M_below_64 : decode c_M_below 64 = .ok (.iload 5, 2) := by decide +kernel
theorem d_M_below_66 : decode c_M_below 66 = .ok (.iaload, 1) := by decide +kernel
theorem d_M_below_67 : decode c_M_below 67 = .ok (.goto 5, 3) := by decide +kernel
theorem d_M_below_70 : decode c_M_below 70 = .ok (.iload 4, 2) := by decide +kernel
theorem d_M_below_72 : decode c_M_below 72 = .ok (.istore 4, 2) := by decide +kernel
theorem d_M_below_74 : decode c_M_below 74 = .ok (.iinc 5 1, 3) := by decide +kernel
theorem d_M_below_77 : decode c_M_below 77 = .ok (.goto (-53), 3) := by decide +kernel
theorem d_M_below_80 : decode c_M_below 80 = .ok (.aload_n 0, 1) := by decide +kernel
theorem d_M_below_81 : decode c_M_below 81 = .ok (.getfield 24, 3) := by decide +kernel
theorem d_M_below_84 : decode c_M_below 84 = .ok (.ifCond .le 7, 3) := by decide +kernel
theorem d_M_below_87 : decode c_M_below 87 = .ok (.iconst 0, 1) := by decide +kernel
theorem d_M_below_88 : decode c_M_below 88 = .ok (.goto 5, 3) := by decide +kernel
theorem d_M_below_91 : decode c_M_below 91 = .ok (.iload 4, 2) := by decide +kernel
theorem d_M_below_93 : decode c_M_below 93 = .ok (.ireturn, 1) := by decide +kernel
theorem d_M_above_0 : decode c_M_above 0 = .ok (.aload_n 0, 1) := by decide +kernel
theorem d_M_above_1 : decode c_M_above 1 = .ok (.aload_n 0, 1) := by decide +kernel
theorem d_M_above_2 : decode c_M_above 2 = .ok (.iload_n 1, 1) := by decide +kernel
theorem d_M_above_3 : decode c_M_above 3 = .ok (.iload_n 2, 1) := by decide +kernel
theorem d_M_above_4 : decode c_M_above 4 = .ok (.invokevirtual 42, 3) := by decide +kernel
theorem d_M_above_7 : decode c_M_above 7 = .ok (.ifCond .eq 7, 3) := by decide +kernel
theorem d_M_above_10 : decode c_M_above 10 = .ok (.iconst 0, 1) := by decide +kernel
theorem d_M_above_11 : decode c_M_above 11 = .ok (.goto 4, 3) := by decide +kernel
theorem d_M_above_14 : decode c_M_above 14 = .ok (.iconst 1, 1) := by decide +kernel
theorem d_M_above_15 : decode c_M_above 15 = .ok (.putfield 24, 3) := by decide +kernel
theorem d_M_above_18 : decode c_M_above 18 = .ok (.iconst (-1), 1) := by decide +kernel
theorem d_M_above_19 : decode c_M_above 19 = .ok (.istore 4, 2) := by decide +kernel
theorem d_M_above_21 : decode c_M_above 21 = .ok (.iload_n 1, 1) := by decide +kernel
theorem d_M_above_22 : decode c_M_above 22 = .ok (.istore 5, 2) := by decide +kernel
theorem d_M_above_24 : decode c_M_above 24 = .ok (.iload 5, 2) := by decide +kernel
theorem d_M_above_26 : decode c_M_above 26 = .ok (.iload_n 2, 1) := by decide +kernel
theorem d_M_above_27 : decode c_M_above 27 = .ok (.if_icmp .ge 59, 3) := by decide +kernel
theorem d_M_above_30 : decode c_M_above 30 = .ok (.aload_n 0, 1) := by decide +kernel
theorem d_M_above_31 : decode c_M_above 31 = .ok (.getfield 24, 3) := by decide +kernel
theorem d_M_above_34 : decode c_M_above 34 = .ok (.ifCond .ne 52, 3) := by decide +kernel
theorem d_M_above_37 : decode c_M_above 37 = .ok (.aload_n 0, 1) := by decide +kernel
theorem d_M_above_38 : decode c_M_above 38 = .ok (.getfield 7, 3) := by decide +kernel
theorem d_M_above_41 : decode c_M_above 41 = .ok (.iload 5, 2) := by decide +kernel
theorem d_M_above_43 : decode c_M_above 43 = .ok (.iaload, 1) := by decide +kernel
theorem d_M_above_44 : decode c_M_above 44 = .ok (.iload_n 3, 1) := by decide +kernel
theorem d_M_above_45 : decode c_M_above 45 = .ok (.if_icmp .lt 31, 3) := by decide +kernel
theorem d_M_above_48 : decode c_M_above 48 = .ok (.iload 4, 2) := by decide +kernel
theorem d_M_above_50 : decode c_M_above 50 = .ok (.iconst (-1), 1) := by decide +kernel
theorem d_M_above_51 : decode c_M_above 51 = .ok (.if_icmp .eq 15, 3) := by decide +kernel
theorem d_M_above_54 : decode c_M_above 54 = .ok (.aload_n 0, 1) := by decide +kernel
theorem d_M_above_55 : decode c_M_above 55 = .ok (.getfield 7, 3) := by decide +kernel
theorem d_M_above_58 : decode c_M_above 58 = .ok (.iload 5, 2) := by decide +kernel
theorem d_M_above_60 : decode c_M_above 60 = .ok (.iaload, 1) := by decide +kernel
theorem d_M_above_61 : decode c_M_above 61 = .ok (.iload 4, 2) := by decide +kernel
theorem d_M_above_63 : decode c_M_above 63 = .ok (.if_icmp .ge 13, 3) := by decide +kernel
theorem d_M_above_66 : decode c_M_above 66 = .ok (.aload_n 0, 1) := by decide +kernel
theorem d_M_above_67 : decode c_M_above 67 = .ok (.getfield 7, 3) := by decide +kernel
theorem d_M_above_70 : decode c_M_above 70 = .ok (.iload 5, 2) := by decide +kernel
theorem d_M_above_72 : decode c_M_above 72 = .ok (.iaload, 1) := by decide +kernel
theorem d_M_above_73 : decode c_M_above 73 = .ok (.goto 5, 3) := by decide +kernel
theorem d_M_above_76 : decode c_M_above 76 = .ok (.iload 4, 2) := by decide +kernel
theorem d_M_above_78 : decode c_M_above 78 = .ok (.istore 4, 2) := by decide +kernel
theorem d_M_above_80 : decode c_M_above 80 = .ok (.iinc 5 1, 3) := by decide +kernel
theorem d_M_above_83 : decode c_M_above 83 = .ok (.goto (-59), 3) := by decide +kernel
theorem d_M_above_86 : decode c_M_above 86 = .ok (.aload_n 0, 1) := by decide +kernel
theorem d_M_above_87 : decode c_M_above 87 = .ok (.getfield 24, 3) := by decide +kernel
theorem d_M_above_90 : decode c_M_above 90 = .ok (.ifCond .le 7, 3) := by decide +kernel
theorem d_M_above_93 : decode c_M_above 93 = .ok (.iconst 0, 1) := by decide +kernel
theorem d_M_above_94 : decode c_M_above 94 = .ok (.goto 5, 3) := by decide +kernel
theorem d_M_above_97 : decode c_M_above 97 = .ok (.iload 4, 2) := by decide +kernel
theorem d_M_above_99 : decode c_M_above 99 = .ok (.ireturn, 1) := by decide +kernel
theorem d_M_different_0 : decode c_M_different 0 = .ok (.aload_n 0, 1) := by decide +kernel
theorem d_M_different_1 : decode c_M_different 1 = .ok (.aload_n 0, 1) := by decide +kernel
theorem d_M_different_2 : decode c_M_different 2 = .ok (.iload_n 1, 1) := by decide +kernel
theorem d_M_different_3 : decode c_M_different 3 = .ok (.iload_n 2, 1) := by decide +kernel
theorem d_M_different_4 : decode c_M_different 4 = .ok (.invokevirtual 42, 3) := by decide +kernel
theorem d_M_different_7 : decode c_M_different 7 = .ok (.ifCond .eq 7, 3) := by decide +kernel
theorem d_M_different_10 : decode c_M_different 10 = .ok (.iconst 0, 1) := by decide +kernel
theorem d_M_different_11 : decode c_M_different 11 = .ok (.goto 4, 3) := by decide +kernel
theorem d_M_different_14 : decode c_M_different 14 = .ok (.iconst 1, 1) := by decide +kernel
theorem d_M_different_15 : decode c_M_different 15 = .ok (.putfield 24, 3) := by decide +kernel
theorem d_M_different_18 : decode c_M_different 18 = .ok (.aload_n 0, 1) := by decide +kernel
theorem d_M_different_19 : decode c_M_different 19 = .ok (.getfield 24, 3) := by decide +kernel
theorem d_M_different_22 : decode c_M_different 22 = .ok (.ifCond .le 7, 3) := by decide +kernel
theorem d_M_different_25 : decode c_M_different 25 = .ok (.iconst 0, 1) := by decide +kernel
theorem d_M_different_26 : decode c_M_different 26 = .ok (.goto 9, 3) := by decide +kernel
theorem d_M_different_29 : decode c_M_different 29 = .ok (.aload_n 0, 1) := by decide +kernel
theorem d_M_different_30 : decode c_M_different 30 = .ok (.iload_n 1, 1) := by decide +kernel
theorem d_M_different_31 : decode c_M_different 31 = .ok (.iload_n 2, 1) := by decide +kernel
theorem d_M_different_32 : decode c_M_different 32 = .ok (.invokevirtual 46, 3) := by decide +kernel
theorem d_M_different_35 : decode c_M_different 35 = .ok (.ireturn, 1) := by decide +kernel
theorem d_M_frequent_0 : decode c_M_frequent 0 = .ok (.aload_n 0, 1) := by decide +kernel
theorem d_M_frequent_1 : decode c_M_frequent 1 = .ok (.aload_n 0, 1) := by decide +kernel
theorem d_M_frequent_2 : decode c_M_frequent 2 = .ok (.iload_n 1, 1) := by decide +kernel
theorem d_M_frequent_3 : decode c_M_frequent 3 = .ok (.iload_n 2, 1) := by decide +kernel
theorem d_M_frequent_4 : decode c_M_frequent 4 = .ok (.invokevirtual 42, 3) := by decide +kernel
theorem d_M_frequent_7 : decode c_M_frequent 7 = .ok (.ifCond .eq 11, 3) := by decide +kernel
theorem d_M_frequent_10 : decode c_M_frequent 10 = .ok (.iload_n 3, 1) := by decide +kernel
theorem d_M_frequent_11 : decode c_M_frequent 11 = .ok (.ifCond .lt 7, 3) := by decide +kernel
theorem d_M_frequent_14 : decode c_M_frequent 14 = .ok (.iconst 0, 1) := by decide +kernel
theorem d_M_frequent_15 : decode c_M_frequent 15 = .ok (.goto 4, 3) := by decide +kernel
theorem d_M_frequent_18 : decode c_M_frequent 18 = .ok (.iconst 1, 1) := by decide +kernel
theorem d_M_frequent_19 : decode c_M_frequent 19 = .ok (.putfield 24, 3) := by decide +kernel
theorem d_M_frequent_22 : decode c_M_frequent 22 = .ok (.aload_n 0, 1) := by decide +kernel
theorem d_M_frequent_23 : decode c_M_frequent 23 = .ok (.getfield 24, 3) := by decide +kernel
theorem d_M_frequent_26 : decode c_M_frequent 26 = .ok (.ifCond .le 5, 3) := by decide +kernel
theorem d_M_frequent_29 : decode c_M_frequent 29 = .ok (.iconst 0, 1) := by decide +kernel
theorem d_M_frequent_30 : decode c_M_frequent 30 = .ok (.ireturn, 1) := by decide +kernel
theorem d_M_frequent_31 : decode c_M_frequent 31 = .ok (.aload_n 0, 1) := by decide +kernel
theorem d_M_frequent_32 : decode c_M_frequent 32 = .ok (.iload_n 1, 1) := by decide +kernel
theorem d_M_frequent_33 : decode c_M_frequent 33 = .ok (.iload_n 2, 1) := by decide +kernel
theorem d_M_frequent_34 : decode c_M_frequent 34 = .ok (.invokevirtual 46, 3) := by decide +kernel
theorem d_M_frequent_37 : decode c_M_frequent 37 = .ok (.istore 4, 2) := by decide +kernel
theorem d_M_frequent_39 : decode c_M_frequent 39 = .ok (.iconst 0, 1) := by decide +kernel
theorem d_M_frequent_40 : decode c_M_frequent 40 = .ok (.istore 5, 2) := by decide +kernel
theorem d_M_frequent_42 : decode c_M_frequent 42 = .ok (.iload 5, 2) := by decide +kernel
theorem d_M_frequent_44 : decode c_M_frequent 44 = .ok (.iload 4, 2) := by decide +kernel
theorem d_M_frequent_46 : decode c_M_frequent 46 = .ok (.if_icmp .ge 94, 3) := by decide +kernel
theorem d_M_frequent_49 : decode c_M_frequent 49 = .ok (.iconst 0, 1) := by decide +kernel
theorem d_M_frequent_50 : decode c_M_frequent 50 = .ok (.istore 6, 2) := by decide +kernel
theorem d_M_frequent_52 : decode c_M_frequent 52 = .ok (.iconst 0, 1) := by decide +kernel
theorem d_M_frequent_53 : decode c_M_frequent 53 = .ok (.istore 7, 2) := by decide +kernel
theorem d_M_frequent_55 : decode c_M_frequent 55 = .ok (.iload 7, 2) := by decide +kernel
theorem d_M_frequent_57 : decode c_M_frequent 57 = .ok (.iload 4, 2) := by decide +kernel
theorem d_M_frequent_59 : decode c_M_frequent 59 = .ok (.if_icmp .ge 61, 3) := by decide +kernel
theorem d_M_frequent_62 : decode c_M_frequent 62 = .ok (.aload_n 0, 1) := by decide +kernel
theorem d_M_frequent_63 : decode c_M_frequent 63 = .ok (.getfield 16, 3) := by decide +kernel
theorem d_M_frequent_66 : decode c_M_frequent 66 = .ok (.iload 7, 2) := by decide +kernel
theorem d_M_frequent_68 : decode c_M_frequent 68 = .ok (.iaload, 1) := by decide +kernel
theorem d_M_frequent_69 : decode c_M_frequent 69 = .ok (.aload_n 0, 1) := by decide +kernel
theorem d_M_frequent_70 : decode c_M_frequent 70 = .ok (.getfield 16, 3) := by decide +kernel
theorem d_M_frequent_73 : decode c_M_frequent 73 = .ok (.iload 5, 2) := by decide +kernel
theorem d_M_frequent_75 : decode c_M_frequent 75 = .ok (.iaload, 1) := by decide +kernel
theorem d_M_frequent_76 : decode c_M_frequent 76 = .ok (.if_icmp .gt 27, 3) := by decide +kernel
theorem d_M_frequent_79 : decode c_M_frequent 79 = .ok (.aload_n 0, 1) := by decide +kernel
theorem d_M_frequent_80 : decode c_M_frequent 80 = .ok (.getfield 16, 3) := by decide +kernel
theorem d_M_frequent_83 : decode c_M_frequent 83 = .ok (.iload 7, 2) := by decide +kernel
theorem d_M_frequent_85 : decode c_M_frequent 85 = .ok (.iaload, 1) := by decide +kernel
theorem d_M_frequent_86 : decode c_M_frequent 86 = .ok (.aload_n 0, 1) := by decide +kernel
theorem d_M_frequent_87 : decode c_M_frequent 87 = .ok (.getfield 16, 3) := by decide +kernel
theorem d_M_frequent_90 : decode c_M_frequent 90 = .ok (.iload 5, 2) := by decide +kernel
theorem d_M_frequent_92 : decode c_M_frequent 92 = .ok (.iaload, 1) := by decide +kernel
theorem d_M_frequent_93 : decode c_M_frequent 93 = .ok (.if_icmp .ne 17, 3) := by decide +kernel
theorem d_M_frequent_96 : decode c_M_frequent 96 = .ok (.iload 7, 2) := by decide +kernel
theorem d_M_frequent_98 : decode c_M_frequent 98 = .ok (.iload 5, 2) := by decide +kernel
theorem d_M_frequent_100 : decode c_M_frequent 100 = .ok (.if_icmp .ge 10, 3) := by decide +kernel
theorem d_M_frequent_103 : decode c_M_frequent 103 = .ok (.iload 6, 2) := by decide +kernel
theorem d_M_frequent_105 : decode c_M_frequent 105 = .ok (.iconst 1, 1) := by decide +kernel
theorem d_M_frequent_106 : decode c_M_frequent 106 = .ok (.iadd, 1) := by decide +kernel
theorem d_M_frequent_107 : decode c_M_frequent 107 = .ok (.goto 5, 3) := by decide +kernel
theorem d_M_frequent_110 : decode c_M_frequent 110 = .ok (.iload 6, 2) := by decide +kernel
theorem d_M_frequent_112 : decode c_M_frequent 112 = .ok (.istore 6, 2) := by decide +kernel
theorem d_M_frequent_114 : decode c_M_frequent 114 = .ok (.iinc 7 1, 3) := by decide +kernel
theorem d_M_frequent_117 : decode c_M_frequent 117 = .ok (.goto (-62), 3) := by decide +kernel
theorem d_M_frequent_120 : decode c_M_frequent 120 = .ok (.iload 6, 2) := by decide +kernel
theorem d_M_frequent_122 : decode c_M_frequent 122 = .ok (.iload_n 3, 1) := by decide +kernel
theorem d_M_frequent_123 : decode c_M_frequent 123 = .ok (.if_icmp .ne 11, 3) := by decide +kernel
theorem d_M_frequent_126 : decode c_M_frequent 126 = .ok (.aload_n 0, 1) := by decide +kernel
theorem d_M_frequent_127 : decode c_M_frequent 127 = .ok (.getfield 13, 3) := by decide +kernel
theorem d_M_frequent_130 : decode c_M_frequent 130 = .ok (.iload 5, 2) := by decide +kernel
theorem d_M_frequent_132 : decode c_M_frequent 132 = .ok (.iaload, 1) := by decide +kernel
theorem d_M_frequent_133 : decode c_M_frequent 133 = .ok (.ireturn, 1) := by decide +kernel
theorem d_M_frequent_134 : decode c_M_frequent 134 = .ok (.iinc 5 1, 3) := by decide +kernel
theorem d_M_frequent_137 : decode c_M_frequent 137 = .ok (.goto (-95), 3) := by decide +kernel
theorem d_M_frequent_140 : decode c_M_frequent 140 = .ok (.iconst (-1), 1) := by decide +kernel
theorem d_M_frequent_141 : decode c_M_frequent 141 = .ok (.ireturn, 1) := by decide +kernel
theorem d_M_bits_0 : decode c_M_bits 0 = .ok (.aload_n 0, 1) := by decide +kernel
theorem d_M_bits_1 : decode c_M_bits 1 = .ok (.iconst 0, 1) := by decide +kernel
theorem d_M_bits_2 : decode c_M_bits 2 = .ok (.putfield 24, 3) := by decide +kernel
theorem d_M_bits_5 : decode c_M_bits 5 = .ok (.aload_n 0, 1) := by decide +kernel
theorem d_M_bits_6 : decode c_M_bits 6 = .ok (.invokevirtual 50, 3) := by decide +kernel
theorem d_M_bits_9 : decode c_M_bits 9 = .ok (.aload_n 0, 1) := by decide +kernel
theorem d_M_bits_10 : decode c_M_bits 10 = .ok (.getfield 35, 3) := by decide +kernel
theorem d_M_bits_13 : decode c_M_bits 13 = .ok (.bipush 63, 2) := by decide +kernel
theorem d_M_bits_15 : decode c_M_bits 15 = .ok (.iadd, 1) := by decide +kernel
theorem d_M_bits_16 : decode c_M_bits 16 = .ok (.bipush 64, 2) := by decide +kernel
theorem d_M_bits_18 : decode c_M_bits 18 = .ok (.idiv, 1) := by decide +kernel
theorem d_M_bits_19 : decode c_M_bits 19 = .ok (.bipush 80, 2) := by decide +kernel
theorem d_M_bits_21 : decode c_M_bits 21 = .ok (.imul, 1) := by decide +kernel
theorem d_M_bits_22 : decode c_M_bits 22 = .ok (.bipush 32, 2) := by decide +kernel
theorem d_M_bits_24 : decode c_M_bits 24 = .ok (.iadd, 1) := by decide +kernel
theorem d_M_bits_25 : decode c_M_bits 25 = .ok (.imul, 1) := by decide +kernel
theorem d_M_bits_26 : decode c_M_bits 26 = .ok (.ireturn, 1) := by decide +kernel
theorem d_M_levels_0 : decode c_M_levels 0 = .ok (.iconst 0, 1) := by decide +kernel
theorem d_M_levels_1 : decode c_M_levels 1 = .ok (.istore_n 1, 1) := by decide +kernel
theorem d_M_levels_2 : decode c_M_levels 2 = .ok (.aload_n 0, 1) := by decide +kernel
theorem d_M_levels_3 : decode c_M_levels 3 = .ok (.getfield 20, 3) := by decide +kernel
theorem d_M_levels_6 : decode c_M_levels 6 = .ok (.iconst 1, 1) := by decide +kernel
theorem d_M_levels_7 : decode c_M_levels 7 = .ok (.isub, 1) := by decide +kernel
theorem d_M_levels_8 : decode c_M_levels 8 = .ok (.iload_n 1, 1) := by decide +kernel
theorem d_M_levels_9 : decode c_M_levels 9 = .ok (.ishr, 1) := by decide +kernel
theorem d_M_levels_10 : decode c_M_levels 10 = .ok (.ifCond .le 9, 3) := by decide +kernel
theorem d_M_levels_13 : decode c_M_levels 13 = .ok (.iinc 1 1, 3) := by decide +kernel
theorem d_M_levels_16 : decode c_M_levels 16 = .ok (.goto (-14), 3) := by decide +kernel
theorem d_M_levels_19 : decode c_M_levels 19 = .ok (.iload_n 1, 1) := by decide +kernel
theorem d_M_levels_20 : decode c_M_levels 20 = .ok (.ireturn, 1) := by decide +kernel
theorem d_M_count_0 : decode c_M_count 0 = .ok (.aload_n 0, 1) := by decide +kernel
theorem d_M_count_1 : decode c_M_count 1 = .ok (.iload_n 1, 1) := by decide +kernel
theorem d_M_count_2 : decode c_M_count 2 = .ok (.ifCond .lt 12, 3) := by decide +kernel
theorem d_M_count_5 : decode c_M_count 5 = .ok (.iload_n 1, 1) := by decide +kernel
theorem d_M_count_6 : decode c_M_count 6 = .ok (.iconst 3, 1) := by decide +kernel
theorem d_M_count_7 : decode c_M_count 7 = .ok (.if_icmp .gt 7, 3) := by decide +kernel
theorem d_M_count_10 : decode c_M_count 10 = .ok (.iconst 0, 1) := by decide +kernel
theorem d_M_count_11 : decode c_M_count 11 = .ok (.goto 4, 3) := by decide +kernel
theorem d_M_count_14 : decode c_M_count 14 = .ok (.iconst 1, 1) := by decide +kernel
theorem d_M_count_15 : decode c_M_count 15 = .ok (.putfield 24, 3) := by decide +kernel
theorem d_M_count_18 : decode c_M_count 18 = .ok (.aload_n 0, 1) := by decide +kernel
theorem d_M_count_19 : decode c_M_count 19 = .ok (.getfield 24, 3) := by decide +kernel
theorem d_M_count_22 : decode c_M_count 22 = .ok (.ifCond .le 5, 3) := by decide +kernel
theorem d_M_count_25 : decode c_M_count 25 = .ok (.iconst 0, 1) := by decide +kernel
theorem d_M_count_26 : decode c_M_count 26 = .ok (.ireturn, 1) := by decide +kernel
theorem d_M_count_27 : decode c_M_count 27 = .ok (.iload_n 1, 1) := by decide +kernel
theorem d_M_count_28 : decode c_M_count 28 = .ok (.ifCond .ne 10, 3) := by decide +kernel
theorem d_M_count_31 : decode c_M_count 31 = .ok (.aload_n 0, 1) := by decide +kernel
theorem d_M_count_32 : decode c_M_count 32 = .ok (.getfield 35, 3) := by decide +kernel
theorem d_M_count_35 : decode c_M_count 35 = .ok (.goto 36, 3) := by decide +kernel
theorem d_M_count_38 : decode c_M_count 38 = .ok (.iload_n 1, 1) := by decide +kernel
theorem d_M_count_39 : decode c_M_count 39 = .ok (.iconst 1, 1) := by decide +kernel
theorem d_M_count_40 : decode c_M_count 40 = .ok (.if_icmp .ne 15, 3) := by decide +kernel
theorem d_M_count_43 : decode c_M_count 43 = .ok (.aload_n 0, 1) := by decide +kernel
theorem d_M_count_44 : decode c_M_count 44 = .ok (.getfield 32, 3) := by decide +kernel
theorem d_M_count_47 : decode c_M_count 47 = .ok (.aload_n 0, 1) := by decide +kernel
theorem d_M_count_48 : decode c_M_count 48 = .ok (.getfield 35, 3) := by decide +kernel
theorem d_M_count_51 : decode c_M_count 51 = .ok (.isub, 1) := by decide +kernel
theorem d_M_count_52 : decode c_M_count 52 = .ok (.goto 19, 3) := by decide +kernel
theorem d_M_count_55 : decode c_M_count 55 = .ok (.iload_n 1, 1) := by decide +kernel
theorem d_M_count_56 : decode c_M_count 56 = .ok (.iconst 2, 1) := by decide +kernel
theorem d_M_count_57 : decode c_M_count 57 = .ok (.if_icmp .ne 10, 3) := by decide +kernel
theorem d_M_count_60 : decode c_M_count 60 = .ok (.aload_n 0, 1) := by decide +kernel
theorem d_M_count_61 : decode c_M_count 61 = .ok (.invokevirtual 50, 3) := by decide +kernel
theorem d_M_count_64 : decode c_M_count 64 = .ok (.goto 7, 3) := by decide +kernel
theorem d_M_count_67 : decode c_M_count 67 = .ok (.aload_n 0, 1) := by decide +kernel
theorem d_M_count_68 : decode c_M_count 68 = .ok (.getfield 20, 3) := by decide +kernel
theorem d_M_count_71 : decode c_M_count 71 = .ok (.ireturn, 1) := by decide +kernel

theorem d_R_init_0 : decode c_R_init 0 = .ok (.aload_n 0, 1) := by decide +kernel
theorem d_R_init_1 : decode c_R_init 1 = .ok (.invokespecial 3, 3) := by decide +kernel
theorem d_R_init_4 : decode c_R_init 4 = .ok (.aload_n 0, 1) := by decide +kernel
theorem d_R_init_5 : decode c_R_init 5 = .ok (.sipush 1000, 3) := by decide +kernel
theorem d_R_init_8 : decode c_R_init 8 = .ok (.newarray .int, 2) := by decide +kernel
theorem d_R_init_10 : decode c_R_init 10 = .ok (.putfield 9, 3) := by decide +kernel
theorem d_R_init_13 : decode c_R_init 13 = .ok (.aload_n 0, 1) := by decide +kernel
theorem d_R_init_14 : decode c_R_init 14 = .ok (.sipush 1000, 3) := by decide +kernel
theorem d_R_init_17 : decode c_R_init 17 = .ok (.newarray .int, 2) := by decide +kernel
theorem d_R_init_19 : decode c_R_init 19 = .ok (.putfield 13, 3) := by decide +kernel
theorem d_R_init_22 : decode c_R_init 22 = .ok (.aload_n 0, 1) := by decide +kernel
theorem d_R_init_23 : decode c_R_init 23 = .ok (.new 16, 3) := by decide +kernel
theorem d_R_init_26 : decode c_R_init 26 = .ok (.dup, 1) := by decide +kernel
theorem d_R_init_27 : decode c_R_init 27 = .ok (.invokespecial 18, 3) := by decide +kernel
theorem d_R_init_30 : decode c_R_init 30 = .ok (.putfield 19, 3) := by decide +kernel
theorem d_R_init_33 : decode c_R_init 33 = .ok (.aload_n 0, 1) := by decide +kernel
theorem d_R_init_34 : decode c_R_init 34 = .ok (.sipush 1000, 3) := by decide +kernel
theorem d_R_init_37 : decode c_R_init 37 = .ok (.newarray .int, 2) := by decide +kernel
theorem d_R_init_39 : decode c_R_init 39 = .ok (.putfield 23, 3) := by decide +kernel
theorem d_R_init_42 : decode c_R_init 42 = .ok (.aload_n 0, 1) := by decide +kernel
theorem d_R_init_43 : decode c_R_init 43 = .ok (.sipush 1000, 3) := by decide +kernel
theorem d_R_init_46 : decode c_R_init 46 = .ok (.newarray .int, 2) := by decide +kernel
theorem d_R_init_48 : decode c_R_init 48 = .ok (.putfield 26, 3) := by decide +kernel
theorem d_R_init_51 : decode c_R_init 51 = .ok (.aload_n 0, 1) := by decide +kernel
theorem d_R_init_52 : decode c_R_init 52 = .ok (.sipush 1001, 3) := by decide +kernel
theorem d_R_init_55 : decode c_R_init 55 = .ok (.newarray .int, 2) := by decide +kernel
theorem d_R_init_57 : decode c_R_init 57 = .ok (.putfield 29, 3) := by decide +kernel
theorem d_R_init_60 : decode c_R_init 60 = .ok (.aload_n 0, 1) := by decide +kernel
theorem d_R_init_61 : decode c_R_init 61 = .ok (.iconst 1, 1) := by decide +kernel
theorem d_R_init_62 : decode c_R_init 62 = .ok (.ldc 32, 2) := by decide +kernel
theorem d_R_init_64 : decode c_R_init 64 = .ok (.iload_n 1, 1) := by decide +kernel
theorem d_R_init_65 : decode c_R_init 65 = .ok (.invokestatic 33, 3) := by decide +kernel
theorem d_R_init_68 : decode c_R_init 68 = .ok (.invokestatic 39, 3) := by decide +kernel
theorem d_R_init_71 : decode c_R_init 71 = .ok (.putfield 42, 3) := by decide +kernel
theorem d_R_init_74 : decode c_R_init 74 = .ok (.bipush 32, 2) := by decide +kernel
theorem d_R_init_76 : decode c_R_init 76 = .ok (.aload_n 0, 1) := by decide +kernel
theorem d_R_init_77 : decode c_R_init 77 = .ok (.getfield 42, 3) := by decide +kernel
theorem d_R_init_80 : decode c_R_init 80 = .ok (.iconst 1, 1) := by decide +kernel
theorem d_R_init_81 : decode c_R_init 81 = .ok (.isub, 1) := by decide +kernel
theorem d_R_init_82 : decode c_R_init 82 = .ok (.invokestatic 46, 3) := by decide +kernel
theorem d_R_init_85 : decode c_R_init 85 = .ok (.isub, 1) := by decide +kernel
theorem d_R_init_86 : decode c_R_init 86 = .ok (.istore_n 2, 1) := by decide +kernel
theorem d_R_init_87 : decode c_R_init 87 = .ok (.aload_n 0, 1) := by decide +kernel
theorem d_R_init_88 : decode c_R_init 88 = .ok (.iload_n 2, 1) := by decide +kernel
theorem d_R_init_89 : decode c_R_init 89 = .ok (.anewarray 52, 3) := by decide +kernel
theorem d_R_init_92 : decode c_R_init 92 = .ok (.putfield 54, 3) := by decide +kernel
theorem d_R_init_95 : decode c_R_init 95 = .ok (.iconst 0, 1) := by decide +kernel
theorem d_R_init_96 : decode c_R_init 96 = .ok (.istore_n 3, 1) := by decide +kernel
theorem d_R_init_97 : decode c_R_init 97 = .ok (.iload_n 3, 1) := by decide +kernel
theorem d_R_init_98 : decode c_R_init 98 = .ok (.iload_n 2, 1) := by decide +kernel
theorem d_R_init_99 : decode c_R_init 99 = .ok (.if_icmp .ge 22, 3) := by decide +kernel
theorem d_R_init_102 : decode c_R_init 102 = .ok (.aload_n 0, 1) := by decide +kernel
theorem d_R_init_103 : decode c_R_init 103 = .ok (.getfield 54, 3) := by decide +kernel
theorem d_R_init_106 : decode c_R_init 106 = .ok (.iload_n 3, 1) := by decide +kernel
theorem d_R_init_107 : decode c_R_init 107 = .ok (.new 52, 3) := by decide +kernel
theorem d_R_init_110 : decode c_R_init 110 = .ok (.dup, 1) := by decide +kernel
theorem d_R_init_111 : decode c_R_init 111 = .ok (.invokespecial 58, 3) := by decide +kernel
theorem d_R_init_114 : decode c_R_init 114 = .ok (.aastore, 1) := by decide +kernel
theorem d_R_init_115 : decode c_R_init 115 = .ok (.iinc 3 1, 3) := by decide +kernel
theorem d_R_init_118 : decode c_R_init 118 = .ok (.goto (-21), 3) := by decide +kernel
theorem d_R_init_121 : decode c_R_init 121 = .ok (.return_, 1) := by decide +kernel
theorem d_R_build_0 : decode c_R_build 0 = .ok (.aload_n 0, 1) := by decide +kernel
theorem d_R_build_1 : decode c_R_build 1 = .ok (.getfield 77, 3) := by decide +kernel
theorem d_R_build_4 : decode c_R_build 4 = .ok (.ifCond .le 52, 3) := by decide +kernel
theorem d_R_build_7 : decode c_R_build 7 = .ok (.iconst 0, 1) := by decide +kernel
theorem d_R_build_8 : decode c_R_build 8 = .ok (.istore_n 1, 1) := by decide +kernel
theorem d_R_build_9 : decode c_R_build 9 = .ok (.iload_n 1, 1) := by decide +kernel
theorem d_R_build_10 : decode c_R_build 10 = .ok (.aload_n 0, 1) := by decide +kernel
theorem d_R_build_11 : decode c_R_build 11 = .ok (.getfield 74, 3) := by decide +kernel
theorem d_R_build_14 : decode c_R_build 14 = .ok (.if_icmp .ge 20, 3) := by decide +kernel
theorem d_R_build_17 : decode c_R_build 17 = .ok (.aload_n 0, 1) := by decide +kernel
theorem d_R_build_18 : decode c_R_build 18 = .ok (.getfield 9, 3) := by decide +kernel
theorem d_R_build_21 : decode c_R_build 21 = .ok (.iload_n 1, 1) := by decide +kernel
theorem d_R_build_22 : decode c_R_build 22 = .ok (.aload_n 0, 1) := by decide +kernel
theorem d_R_build_23 : decode c_R_build 23 = .ok (.iload_n 1, 1) := by decide +kernel
theorem d_R_build_24 : decode c_R_build 24 = .ok (.invokevirtual 85, 3) := by decide +kernel
theorem d_R_build_27 : decode c_R_build 27 = .ok (.iastore, 1) := by decide +kernel
theorem d_R_build_28 : decode c_R_build 28 = .ok (.iinc 1 1, 3) := by decide +kernel
theorem d_R_build_31 : decode c_R_build 31 = .ok (.goto (-22), 3) := by decide +kernel
theorem d_R_build_34 : decode c_R_build 34 = .ok (.aload_n 0, 1) := by decide +kernel
theorem d_R_build_35 : decode c_R_build 35 = .ok (.dup, 1) := by decide +kernel
theorem d_R_build_36 : decode c_R_build 36 = .ok (.getfield 74, 3) := by decide +kernel
theorem d_R_build_39 : decode c_R_build 39 = .ok (.aload_n 0, 1) := by decide +kernel
theorem d_R_build_40 : decode c_R_build 40 = .ok (.getfield 77, 3) := by decide +kernel
theorem d_R_build_43 : decode c_R_build 43 = .ok (.iadd, 1) := by decide +kernel
theorem d_R_build_44 : decode c_R_build 44 = .ok (.putfield 74, 3) := by decide +kernel
theorem d_R_build_47 : decode c_R_build 47 = .ok (.aload_n 0, 1) := by decide +kernel
theorem d_R_build_48 : decode c_R_build 48 = .ok (.iconst 0, 1) := by decide +kernel
theorem d_R_build_49 : decode c_R_build 49 = .ok (.putfield 77, 3) := by decide +kernel
theorem d_R_build_52 : decode c_R_build 52 = .ok (.aload_n 0, 1) := by decide +kernel
theorem d_R_build_53 : decode c_R_build 53 = .ok (.invokevirtual 88, 3) := by decide +kernel
theorem d_R_build_56 : decode c_R_build 56 = .ok (.aload_n 0, 1) := by decide +kernel
theorem d_R_build_57 : decode c_R_build 57 = .ok (.getfield 74, 3) := by decide +kernel
theorem d_R_build_60 : decode c_R_build 60 = .ok (.ireturn, 1) := by decide +kernel
theorem d_R_symbolAt_0 : decode c_R_symbolAt 0 = .ok (.iconst 0, 1) := by decide +kernel
theorem d_R_symbolAt_1 : decode c_R_symbolAt 1 = .ok (.istore_n 2, 1) := by decide +kernel
theorem d_R_symbolAt_2 : decode c_R_symbolAt 2 = .ok (.iload_n 1, 1) := by decide +kernel
theorem d_R_symbolAt_3 : decode c_R_symbolAt 3 = .ok (.istore_n 3, 1) := by decide +kernel
theorem d_R_symbolAt_4 : decode c_R_symbolAt 4 = .ok (.iconst 0, 1) := by decide +kernel
theorem d_R_symbolAt_5 : decode c_R_symbolAt 5 = .ok (.istore 4, 2) := by decide +kernel
theorem d_R_symbolAt_7 : decode c_R_symbolAt 7 = .ok (.iload 4, 2) := by decide +kernel
theorem d_R_symbolAt_9 : decode c_R_symbolAt 9 = .ok (.aload_n 0, 1) := by decide +kernel
theorem d_R_symbolAt_10 : decode c_R_symbolAt 10 = .ok (.getfield 54, 3) := by decide +kernel
theorem d_R_symbolAt_13 : decode c_R_symbolAt 13 = .ok (.arraylength, 1) := by decide +kernel
theorem d_R_symbolAt_14 : decode c_R_symbolAt 14 = .ok (.if_icmp .ge 43, 3) := by decide +kernel
theorem d_R_symbolAt_17 : decode c_R_symbolAt 17 = .ok (.aload_n 0, 1) := by decide +kernel
theorem d_R_symbolAt_18 : decode c_R_symbolAt 18 = .ok (.getfield 54, 3) := by decide +kernel
theorem d_R_symbolAt_21 : decode c_R_symbolAt 21 = .ok (.iload 4, 2) := by decide +kernel
theorem d_R_symbolAt_23 : decode c_R_symbolAt 23 = .ok (.aaload, 1) := by decide +kernel
theorem d_R_symbolAt_24 : decode c_R_symbolAt 24 = .ok (.iload_n 3, 1) := by decide +kernel
theorem d_R_symbolAt_25 : decode c_R_symbolAt 25 = .ok (.invokevirtual 150, 3) := by decide +kernel
theorem d_R_symbolAt_28 : decode c_R_symbolAt 28 = .ok (.istore 5, 2) := by decide +kernel
theorem d_R_symbolAt_30 : decode c_R_symbolAt 30 = .ok (.iload_n 2, 1) := by decide +kernel
theorem d_R_symbolAt_31 : decode c_R_symbolAt 31 = .ok (.iconst 1, 1) := by decide +kernel
theorem d_R_symbolAt_32 : decode c_R_symbolAt 32 = .ok (.ishl, 1) := by decide +kernel
theorem d_R_symbolAt_33 : decode c_R_symbolAt 33 = .ok (.iload 5, 2) := by decide +kernel
theorem d_R_symbolAt_35 : decode c_R_symbolAt 35 = .ok (.ior, 1) := by decide +kernel
theorem d_R_symbolAt_36 : decode c_R_symbolAt 36 = .ok (.istore_n 2, 1) := by decide +kernel
theorem d_R_symbolAt_37 : decode c_R_symbolAt 37 = .ok (.aload_n 0, 1) := by decide +kernel
theorem d_R_symbolAt_38 : decode c_R_symbolAt 38 = .ok (.getfield 54, 3) := by decide +kernel
theorem d_R_symbolAt_41 : decode c_R_symbolAt 41 = .ok (.iload 4, 2) := by decide +kernel
theorem d_R_symbolAt_43 : decode c_R_symbolAt 43 = .ok (.aaload, 1) := by decide +kernel
theorem d_R_symbolAt_44 : decode c_R_symbolAt 44 = .ok (.iload 5, 2) := by decide +kernel
theorem d_R_symbolAt_46 : decode c_R_symbolAt 46 = .ok (.iload_n 3, 1) := by decide +kernel
theorem d_R_symbolAt_47 : decode c_R_symbolAt 47 = .ok (.invokevirtual 153, 3) := by decide +kernel
theorem d_R_symbolAt_50 : decode c_R_symbolAt 50 = .ok (.istore_n 3, 1) := by decide +kernel
theorem d_R_symbolAt_51 : decode c_R_symbolAt 51 = .ok (.iinc 4 1, 3) := by decide +kernel
theorem d_R_symbolAt_54 : decode c_R_symbolAt 54 = .ok (.goto (-47), 3) := by decide +kernel
theorem d_R_symbolAt_57 : decode c_R_symbolAt 57 = .ok (.iload_n 2, 1) := by decide +kernel
theorem d_R_symbolAt_58 : decode c_R_symbolAt 58 = .ok (.ireturn, 1) := by decide +kernel
theorem d_R_storeLevels_0 : decode c_R_storeLevels 0 = .ok (.iconst 0, 1) := by decide +kernel
theorem d_R_storeLevels_1 : decode c_R_storeLevels 1 = .ok (.istore_n 1, 1) := by decide +kernel
theorem d_R_storeLevels_2 : decode c_R_storeLevels 2 = .ok (.iload_n 1, 1) := by decide +kernel
theorem d_R_storeLevels_3 : decode c_R_storeLevels 3 = .ok (.aload_n 0, 1) := by decide +kernel
theorem d_R_storeLevels_4 : decode c_R_storeLevels 4 = .ok (.getfield 54, 3) := by decide +kernel
theorem d_R_storeLevels_7 : decode c_R_storeLevels 7 = .ok (.arraylength, 1) := by decide +kernel
theorem d_R_storeLevels_8 : decode c_R_storeLevels 8 = .ok (.if_icmp .ge 35, 3) := by decide +kernel
theorem d_R_storeLevels_11 : decode c_R_storeLevels 11 = .ok (.aload_n 0, 1) := by decide +kernel
theorem d_R_storeLevels_12 : decode c_R_storeLevels 12 = .ok (.getfield 54, 3) := by decide +kernel
theorem d_R_storeLevels_15 : decode c_R_storeLevels 15 = .ok (.iload_n 1, 1) := by decide +kernel
theorem d_R_storeLevels_16 : decode c_R_storeLevels 16 = .ok (.aaload, 1) := by decide +kernel
theorem d_R_storeLevels_17 : decode c_R_storeLevels 17 = .ok (.aload_n 0, 1) := by decide +kernel
theorem d_R_storeLevels_18 : decode c_R_storeLevels 18 = .ok (.getfield 9, 3) := by decide +kernel
theorem d_R_storeLevels_21 : decode c_R_storeLevels 21 = .ok (.aload_n 0, 1) := by decide +kernel
theorem d_R_storeLevels_22 : decode c_R_storeLevels 22 = .ok (.getfield 74, 3) := by decide +kernel
theorem d_R_storeLevels_25 : decode c_R_storeLevels 25 = .ok (.aload_n 0, 1) := by decide +kernel
theorem d_R_storeLevels_26 : decode c_R_storeLevels 26 = .ok (.iload_n 1, 1) := by decide +kernel
theorem d_R_storeLevels_27 : decode c_R_storeLevels 27 = .ok (.invokevirtual 143, 3) := by decide +kernel
theorem d_R_storeLevels_30 : decode c_R_storeLevels 30 = .ok (.aload_n 0, 1) := by decide +kernel
theorem d_R_storeLevels_31 : decode c_R_storeLevels 31 = .ok (.getfield 13, 3) := by decide +kernel
theorem d_R_storeLevels_34 : decode c_R_storeLevels 34 = .ok (.invokevirtual 146, 3) := by decide +kernel
theorem d_R_storeLevels_37 : decode c_R_storeLevels 37 = .ok (.iinc 1 1, 3) := by decide +kernel
theorem d_R_storeLevels_40 : decode c_R_storeLevels 40 = .ok (.goto (-38), 3) := by decide +kernel
theorem d_R_storeLevels_43 : decode c_R_storeLevels 43 = .ok (.return_, 1) := by decide +kernel
theorem d_R_shiftOf_0 : decode c_R_shiftOf 0 = .ok (.aload_n 0, 1) := by decide +kernel
theorem d_R_shiftOf_1 : decode c_R_shiftOf 1 = .ok (.getfield 54, 3) := by decide +kernel
theorem d_R_shiftOf_4 : decode c_R_shiftOf 4 = .ok (.arraylength, 1) := by decide +kernel
theorem d_R_shiftOf_5 : decode c_R_shiftOf 5 = .ok (.iconst 1, 1) := by decide +kernel
theorem d_R_shiftOf_6 : decode c_R_shiftOf 6 = .ok (.isub, 1) := by decide +kernel
theorem d_R_shiftOf_7 : decode c_R_shiftOf 7 = .ok (.iload_n 1, 1) := by decide +kernel
theorem d_R_shiftOf_8 : decode c_R_shiftOf 8 = .ok (.isub, 1) := by decide +kernel
theorem d_R_shiftOf_9 : decode c_R_shiftOf 9 = .ok (.ireturn, 1) := by decide +kernel
theorem d_R_bits_0 : decode c_R_bits 0 = .ok (.aload_n 0, 1) := by decide +kernel
theorem d_R_bits_1 : decode c_R_bits 1 = .ok (.getfield 74, 3) := by decide +kernel
theorem d_R_bits_4 : decode c_R_bits 4 = .ok (.bipush 64, 2) := by decide +kernel
theorem d_R_bits_6 : decode c_R_bits 6 = .ok (.iadd, 1) := by decide +kernel
theorem d_R_bits_7 : decode c_R_bits 7 = .ok (.iconst 1, 1) := by decide +kernel
theorem d_R_bits_8 : decode c_R_bits 8 = .ok (.isub, 1) := by decide +kernel
theorem d_R_bits_9 : decode c_R_bits 9 = .ok (.bipush 64, 2) := by decide +kernel
theorem d_R_bits_11 : decode c_R_bits 11 = .ok (.idiv, 1) := by decide +kernel
theorem d_R_bits_12 : decode c_R_bits 12 = .ok (.istore_n 1, 1) := by decide +kernel
theorem d_R_bits_13 : decode c_R_bits 13 = .ok (.aload_n 0, 1) := by decide +kernel
theorem d_R_bits_14 : decode c_R_bits 14 = .ok (.getfield 54, 3) := by decide +kernel
theorem d_R_bits_17 : decode c_R_bits 17 = .ok (.arraylength, 1) := by decide +kernel
theorem d_R_bits_18 : decode c_R_bits 18 = .ok (.iload_n 1, 1) := by decide +kernel
theorem d_R_bits_19 : decode c_R_bits 19 = .ok (.bipush 80, 2) := by decide +kernel
theorem d_R_bits_21 : decode c_R_bits 21 = .ok (.imul, 1) := by decide +kernel
theorem d_R_bits_22 : decode c_R_bits 22 = .ok (.bipush 32, 2) := by decide +kernel
theorem d_R_bits_24 : decode c_R_bits 24 = .ok (.iadd, 1) := by decide +kernel
theorem d_R_bits_25 : decode c_R_bits 25 = .ok (.imul, 1) := by decide +kernel
theorem d_R_bits_26 : decode c_R_bits 26 = .ok (.ireturn, 1) := by decide +kernel
theorem d_R_clear_0 : decode c_R_clear 0 = .ok (.aload_n 0, 1) := by decide +kernel
theorem d_R_clear_1 : decode c_R_clear 1 = .ok (.iconst 0, 1) := by decide +kernel
theorem d_R_clear_2 : decode c_R_clear 2 = .ok (.putfield 74, 3) := by decide +kernel
theorem d_R_clear_5 : decode c_R_clear 5 = .ok (.aload_n 0, 1) := by decide +kernel
theorem d_R_clear_6 : decode c_R_clear 6 = .ok (.iconst 0, 1) := by decide +kernel
theorem d_R_clear_7 : decode c_R_clear 7 = .ok (.putfield 77, 3) := by decide +kernel
theorem d_R_clear_10 : decode c_R_clear 10 = .ok (.aload_n 0, 1) := by decide +kernel
theorem d_R_clear_11 : decode c_R_clear 11 = .ok (.invokevirtual 88, 3) := by decide +kernel
theorem d_R_clear_14 : decode c_R_clear 14 = .ok (.return_, 1) := by decide +kernel
theorem d_R_put_0 : decode c_R_put 0 = .ok (.iload 6, 2) := by decide +kernel
theorem d_R_put_2 : decode c_R_put 2 = .ok (.bipush 10, 2) := by decide +kernel
theorem d_R_put_4 : decode c_R_put 4 = .ok (.invokestatic 33, 3) := by decide +kernel
theorem d_R_put_7 : decode c_R_put 7 = .ok (.istore 7, 2) := by decide +kernel
theorem d_R_put_9 : decode c_R_put 9 = .ok (.iconst 0, 1) := by decide +kernel
theorem d_R_put_10 : decode c_R_put 10 = .ok (.istore 8, 2) := by decide +kernel
theorem d_R_put_12 : decode c_R_put 12 = .ok (.iload 8, 2) := by decide +kernel
theorem d_R_put_14 : decode c_R_put 14 = .ok (.iload 7, 2) := by decide +kernel
theorem d_R_put_16 : decode c_R_put 16 = .ok (.if_icmp .ge 25, 3) := by decide +kernel
theorem d_R_put_19 : decode c_R_put 19 = .ok (.aload_n 0, 1) := by decide +kernel
theorem d_R_put_20 : decode c_R_put 20 = .ok (.iload 8, 2) := by decide +kernel
theorem d_R_put_22 : decode c_R_put 22 = .ok (.iload_n 1, 1) := by decide +kernel
theorem d_R_put_23 : decode c_R_put 23 = .ok (.iload_n 2, 1) := by decide +kernel
theorem d_R_put_24 : decode c_R_put 24 = .ok (.iload_n 3, 1) := by decide +kernel
theorem d_R_put_25 : decode c_R_put 25 = .ok (.iload 4, 2) := by decide +kernel
theorem d_R_put_27 : decode c_R_put 27 = .ok (.iload 5, 2) := by decide +kernel
theorem d_R_put_29 : decode c_R_put 29 = .ok (.invokestatic 59, 3) := by decide +kernel
theorem d_R_put_32 : decode c_R_put 32 = .ok (.invokevirtual 63, 3) := by decide +kernel
theorem d_R_put_35 : decode c_R_put 35 = .ok (.iinc 8 1, 3) := by decide +kernel
theorem d_R_put_38 : decode c_R_put 38 = .ok (.goto (-26), 3) := by decide +kernel
theorem d_R_put_41 : decode c_R_put 41 = .ok (.iload 6, 2) := by decide +kernel
theorem d_R_put_43 : decode c_R_put 43 = .ok (.iconst 1, 1) := by decide +kernel
theorem d_R_put_44 : decode c_R_put 44 = .ok (.if_icmp .lt 10, 3) := by decide +kernel
theorem d_R_put_47 : decode c_R_put 47 = .ok (.iload 6, 2) := by decide +kernel
theorem d_R_put_49 : decode c_R_put 49 = .ok (.bipush 10, 2) := by decide +kernel
theorem d_R_put_51 : decode c_R_put 51 = .ok (.if_icmp .le 13, 3) := by decide +kernel
theorem d_R_put_54 : decode c_R_put 54 = .ok (.new 67, 3) := by decide +kernel
theorem d_R_put_57 : decode c_R_put 57 = .ok (.dup, 1) := by decide +kernel
theorem d_R_put_58 : decode c_R_put 58 = .ok (.ldc 69, 2) := by decide +kernel
theorem d_R_put_60 : decode c_R_put 60 = .ok (.invokespecial 71, 3) := by decide +kernel
theorem d_R_put_63 : decode c_R_put 63 = .ok (.athrow, 1) := by decide +kernel
theorem d_R_put_64 : decode c_R_put 64 = .ok (.iload 6, 2) := by decide +kernel
theorem d_R_put_66 : decode c_R_put 66 = .ok (.sipush 1000, 3) := by decide +kernel
theorem d_R_put_69 : decode c_R_put 69 = .ok (.aload_n 0, 1) := by decide +kernel
theorem d_R_put_70 : decode c_R_put 70 = .ok (.getfield 74, 3) := by decide +kernel
theorem d_R_put_73 : decode c_R_put 73 = .ok (.isub, 1) := by decide +kernel
theorem d_R_put_74 : decode c_R_put 74 = .ok (.aload_n 0, 1) := by decide +kernel
theorem d_R_put_75 : decode c_R_put 75 = .ok (.getfield 77, 3) := by decide +kernel
theorem d_R_put_78 : decode c_R_put 78 = .ok (.isub, 1) := by decide +kernel
theorem d_R_put_79 : decode c_R_put 79 = .ok (.if_icmp .le 13, 3) := by decide +kernel
theorem d_R_put_82 : decode c_R_put 82 = .ok (.new 80, 3) := by decide +kernel
theorem d_R_put_85 : decode c_R_put 85 = .ok (.dup, 1) := by decide +kernel
theorem d_R_put_86 : decode c_R_put 86 = .ok (.ldc 82, 2) := by decide +kernel
theorem d_R_put_88 : decode c_R_put 88 = .ok (.invokespecial 84, 3) := by decide +kernel
theorem d_R_put_91 : decode c_R_put 91 = .ok (.athrow, 1) := by decide +kernel
theorem d_R_put_92 : decode c_R_put 92 = .ok (.iconst 0, 1) := by decide +kernel
theorem d_R_put_93 : decode c_R_put 93 = .ok (.istore 8, 2) := by decide +kernel
theorem d_R_put_95 : decode c_R_put 95 = .ok (.iload 8, 2) := by decide +kernel
theorem d_R_put_97 : decode c_R_put 97 = .ok (.iload 6, 2) := by decide +kernel
theorem d_R_put_99 : decode c_R_put 99 = .ok (.if_icmp .ge 38, 3) := by decide +kernel
theorem d_R_put_102 : decode c_R_put 102 = .ok (.aload_n 0, 1) := by decide +kernel
theorem d_R_put_103 : decode c_R_put 103 = .ok (.getfield 9, 3) := by decide +kernel
theorem d_R_put_106 : decode c_R_put 106 = .ok (.aload_n 0, 1) := by decide +kernel
theorem d_R_put_107 : decode c_R_put 107 = .ok (.getfield 74, 3) := by decide +kernel
theorem d_R_put_110 : decode c_R_put 110 = .ok (.aload_n 0, 1) := by decide +kernel
theorem d_R_put_111 : decode c_R_put 111 = .ok (.getfield 77, 3) := by decide +kernel
theorem d_R_put_114 : decode c_R_put 114 = .ok (.iadd, 1) := by decide +kernel
theorem d_R_put_115 : decode c_R_put 115 = .ok (.iload 8, 2) := by decide +kernel
theorem d_R_put_117 : decode c_R_put 117 = .ok (.iadd, 1) := by decide +kernel
theorem d_R_put_118 : decode c_R_put 118 = .ok (.iload 8, 2) := by decide +kernel
theorem d_R_put_120 : decode c_R_put 120 = .ok (.iload_n 1, 1) := by decide +kernel
theorem d_R_put_121 : decode c_R_put 121 = .ok (.iload_n 2, 1) := by decide +kernel
theorem d_R_put_122 : decode c_R_put 122 = .ok (.iload_n 3, 1) := by decide +kernel
theorem d_R_put_123 : decode c_R_put 123 = .ok (.iload 4, 2) := by decide +kernel
theorem d_R_put_125 : decode c_R_put 125 = .ok (.iload 5, 2) := by decide +kernel
theorem d_R_put_127 : decode c_R_put 127 = .ok (.invokestatic 59, 3) := by decide +kernel
theorem d_R_put_130 : decode c_R_put 130 = .ok (.iastore, 1) := by decide +kernel
theorem d_R_put_131 : decode c_R_put 131 = .ok (.iinc 8 1, 3) := by decide +kernel
theorem d_R_put_134 : decode c_R_put 134 = .ok (.goto (-39), 3) := by decide +kernel
theorem d_R_put_137 : decode c_R_put 137 = .ok (.aload_n 0, 1) := by decide +kernel
theorem d_R_put_138 : decode c_R_put 138 = .ok (.dup, 1) := by decide +kernel
theorem d_R_put_139 : decode c_R_put 139 = .ok (.getfield 77, 3) := by decide +kernel
theorem d_R_put_142 : decode c_R_put 142 = .ok (.iload 6, 2) := by decide +kernel
theorem d_R_put_144 : decode c_R_put 144 = .ok (.iadd, 1) := by decide +kernel
theorem d_R_put_145 : decode c_R_put 145 = .ok (.putfield 77, 3) := by decide +kernel
theorem d_R_put_148 : decode c_R_put 148 = .ok (.aload_n 0, 1) := by decide +kernel
theorem d_R_put_149 : decode c_R_put 149 = .ok (.getfield 77, 3) := by decide +kernel
theorem d_R_put_152 : decode c_R_put 152 = .ok (.ireturn, 1) := by decide +kernel
theorem d_R_symbolInPut_0 : decode c_R_symbolInPut 0 = .ok (.iload_n 0, 1) := by decide +kernel
theorem d_R_symbolInPut_1 : decode c_R_symbolInPut 1 = .ok (.iconst 2, 1) := by decide +kernel
theorem d_R_symbolInPut_2 : decode c_R_symbolInPut 2 = .ok (.idiv, 1) := by decide +kernel
theorem d_R_symbolInPut_3 : decode c_R_symbolInPut 3 = .ok (.tableswitch 54 0 3 #[29, 35, 41, 47], 29) := by decide +kernel
theorem d_R_symbolInPut_32 : decode c_R_symbolInPut 32 = .ok (.iload_n 1, 1) := by decide +kernel
theorem d_R_symbolInPut_33 : decode c_R_symbolInPut 33 = .ok (.istore 6, 2) := by decide +kernel
theorem d_R_symbolInPut_35 : decode c_R_symbolInPut 35 = .ok (.goto 26, 3) := by decide +kernel
theorem d_R_symbolInPut_38 : decode c_R_symbolInPut 38 = .ok (.iload_n 2, 1) := by decide +kernel
theorem d_R_symbolInPut_39 : decode c_R_symbolInPut 39 = .ok (.istore 6, 2) := by decide +kernel
theorem d_R_symbolInPut_41 : decode c_R_symbolInPut 41 = .ok (.goto 20, 3) := by decide +kernel
theorem d_R_symbolInPut_44 : decode c_R_symbolInPut 44 = .ok (.iload_n 3, 1) := by decide +kernel
theorem d_R_symbolInPut_45 : decode c_R_symbolInPut 45 = .ok (.istore 6, 2) := by decide +kernel
theorem d_R_symbolInPut_47 : decode c_R_symbolInPut 47 = .ok (.goto 14, 3) := by decide +kernel
theorem d_R_symbolInPut_50 : decode c_R_symbolInPut 50 = .ok (.iload 4, 2) := by decide +kernel
theorem d_R_symbolInPut_52 : decode c_R_symbolInPut 52 = .ok (.istore 6, 2) := by decide +kernel
theorem d_R_symbolInPut_54 : decode c_R_symbolInPut 54 = .ok (.goto 7, 3) := by decide +kernel
theorem d_R_symbolInPut_57 : decode c_R_symbolInPut 57 = .ok (.iload 5, 2) := by decide +kernel
theorem d_R_symbolInPut_59 : decode c_R_symbolInPut 59 = .ok (.istore 6, 2) := by decide +kernel
theorem d_R_symbolInPut_61 : decode c_R_symbolInPut 61 = .ok (.iload_n 0, 1) := by decide +kernel
theorem d_R_symbolInPut_62 : decode c_R_symbolInPut 62 = .ok (.iconst 2, 1) := by decide +kernel
theorem d_R_symbolInPut_63 : decode c_R_symbolInPut 63 = .ok (.irem, 1) := by decide +kernel
theorem d_R_symbolInPut_64 : decode c_R_symbolInPut 64 = .ok (.ifCond .ne 11, 3) := by decide +kernel
theorem d_R_symbolInPut_67 : decode c_R_symbolInPut 67 = .ok (.iload 6, 2) := by decide +kernel
theorem d_R_symbolInPut_69 : decode c_R_symbolInPut 69 = .ok (.bipush 16, 2) := by decide +kernel
theorem d_R_symbolInPut_71 : decode c_R_symbolInPut 71 = .ok (.iushr, 1) := by decide +kernel
theorem d_R_symbolInPut_72 : decode c_R_symbolInPut 72 = .ok (.goto 8, 3) := by decide +kernel
theorem d_R_symbolInPut_75 : decode c_R_symbolInPut 75 = .ok (.iload 6, 2) := by decide +kernel
theorem d_R_symbolInPut_77 : decode c_R_symbolInPut 77 = .ok (.ldc 142, 2) := by decide +kernel
theorem d_R_symbolInPut_79 : decode c_R_symbolInPut 79 = .ok (.iand, 1) := by decide +kernel
theorem d_R_symbolInPut_80 : decode c_R_symbolInPut 80 = .ok (.ireturn, 1) := by decide +kernel
theorem d_R_checkSymbol_0 : decode c_R_checkSymbol 0 = .ok (.iload_n 1, 1) := by decide +kernel
theorem d_R_checkSymbol_1 : decode c_R_checkSymbol 1 = .ok (.ifCond .lt 11, 3) := by decide +kernel
theorem d_R_checkSymbol_4 : decode c_R_checkSymbol 4 = .ok (.iload_n 1, 1) := by decide +kernel
theorem d_R_checkSymbol_5 : decode c_R_checkSymbol 5 = .ok (.aload_n 0, 1) := by decide +kernel
theorem d_R_checkSymbol_6 : decode c_R_checkSymbol 6 = .ok (.getfield 42, 3) := by decide +kernel
theorem d_R_checkSymbol_9 : decode c_R_checkSymbol 9 = .ok (.if_icmp .lt 13, 3) := by decide +kernel
theorem d_R_checkSymbol_12 : decode c_R_checkSymbol 12 = .ok (.new 91, 3) := by decide +kernel
theorem d_R_checkSymbol_15 : decode c_R_checkSymbol 15 = .ok (.dup, 1) := by decide +kernel
theorem d_R_checkSymbol_16 : decode c_R_checkSymbol 16 = .ok (.ldc 136, 2) := by decide +kernel
theorem d_R_checkSymbol_18 : decode c_R_checkSymbol 18 = .ok (.invokespecial 95, 3) := by decide +kernel
theorem d_R_checkSymbol_21 : decode c_R_checkSymbol 21 = .ok (.athrow, 1) := by decide +kernel
theorem d_R_checkSymbol_22 : decode c_R_checkSymbol 22 = .ok (.return_, 1) := by decide +kernel
theorem d_R_at_0 : decode c_R_at 0 = .ok (.iload_n 1, 1) := by decide +kernel
theorem d_R_at_1 : decode c_R_at 1 = .ok (.ifCond .lt 11, 3) := by decide +kernel
theorem d_R_at_4 : decode c_R_at 4 = .ok (.iload_n 1, 1) := by decide +kernel
theorem d_R_at_5 : decode c_R_at 5 = .ok (.aload_n 0, 1) := by decide +kernel
theorem d_R_at_6 : decode c_R_at 6 = .ok (.getfield 74, 3) := by decide +kernel
theorem d_R_at_9 : decode c_R_at 9 = .ok (.if_icmp .lt 13, 3) := by decide +kernel
theorem d_R_at_12 : decode c_R_at 12 = .ok (.new 91, 3) := by decide +kernel
theorem d_R_at_15 : decode c_R_at 15 = .ok (.dup, 1) := by decide +kernel
theorem d_R_at_16 : decode c_R_at 16 = .ok (.ldc 93, 2) := by decide +kernel
theorem d_R_at_18 : decode c_R_at 18 = .ok (.invokespecial 95, 3) := by decide +kernel
theorem d_R_at_21 : decode c_R_at 21 = .ok (.athrow, 1) := by decide +kernel
theorem d_R_at_22 : decode c_R_at 22 = .ok (.aload_n 0, 1) := by decide +kernel
theorem d_R_at_23 : decode c_R_at 23 = .ok (.iload_n 1, 1) := by decide +kernel
theorem d_R_at_24 : decode c_R_at 24 = .ok (.invokevirtual 85, 3) := by decide +kernel
theorem d_R_at_27 : decode c_R_at 27 = .ok (.ireturn, 1) := by decide +kernel
theorem d_R_rank_0 : decode c_R_rank 0 = .ok (.aload_n 0, 1) := by decide +kernel
theorem d_R_rank_1 : decode c_R_rank 1 = .ok (.iload_n 1, 1) := by decide +kernel
theorem d_R_rank_2 : decode c_R_rank 2 = .ok (.invokevirtual 63, 3) := by decide +kernel
theorem d_R_rank_5 : decode c_R_rank 5 = .ok (.aload_n 0, 1) := by decide +kernel
theorem d_R_rank_6 : decode c_R_rank 6 = .ok (.iconst 0, 1) := by decide +kernel
theorem d_R_rank_7 : decode c_R_rank 7 = .ok (.iload_n 2, 1) := by decide +kernel
theorem d_R_rank_8 : decode c_R_rank 8 = .ok (.invokevirtual 96, 3) := by decide +kernel
theorem d_R_rank_11 : decode c_R_rank 11 = .ok (.aload_n 0, 1) := by decide +kernel
theorem d_R_rank_12 : decode c_R_rank 12 = .ok (.getfield 19, 3) := by decide +kernel
theorem d_R_rank_15 : decode c_R_rank 15 = .ok (.iconst 0, 1) := by decide +kernel
theorem d_R_rank_16 : decode c_R_rank 16 = .ok (.iload_n 2, 1) := by decide +kernel
theorem d_R_rank_17 : decode c_R_rank 17 = .ok (.invokevirtual 100, 3) := by decide +kernel
theorem d_R_rank_20 : decode c_R_rank 20 = .ok (.aload_n 0, 1) := by decide +kernel
theorem d_R_rank_21 : decode c_R_rank 21 = .ok (.iload_n 1, 1) := by decide +kernel
theorem d_R_rank_22 : decode c_R_rank 22 = .ok (.invokevirtual 103, 3) := by decide +kernel
theorem d_R_rank_25 : decode c_R_rank 25 = .ok (.aload_n 0, 1) := by decide +kernel
theorem d_R_rank_26 : decode c_R_rank 26 = .ok (.getfield 19, 3) := by decide +kernel
theorem d_R_rank_29 : decode c_R_rank 29 = .ok (.invokevirtual 106, 3) := by decide +kernel
theorem d_R_rank_32 : decode c_R_rank 32 = .ok (.ireturn, 1) := by decide +kernel
theorem d_R_checkPart_0 : decode c_R_checkPart 0 = .ok (.iload_n 1, 1) := by decide +kernel
theorem d_R_checkPart_1 : decode c_R_checkPart 1 = .ok (.ifCond .lt 16, 3) := by decide +kernel
theorem d_R_checkPart_4 : decode c_R_checkPart 4 = .ok (.iload_n 2, 1) := by decide +kernel
theorem d_R_checkPart_5 : decode c_R_checkPart 5 = .ok (.iload_n 1, 1) := by decide +kernel
theorem d_R_checkPart_6 : decode c_R_checkPart 6 = .ok (.if_icmp .lt 11, 3) := by decide +kernel
theorem d_R_checkPart_9 : decode c_R_checkPart 9 = .ok (.iload_n 2, 1) := by decide +kernel
theorem d_R_checkPart_10 : decode c_R_checkPart 10 = .ok (.aload_n 0, 1) := by decide +kernel
theorem d_R_checkPart_11 : decode c_R_checkPart 11 = .ok (.getfield 74, 3) := by decide +kernel
theorem d_R_checkPart_14 : decode c_R_checkPart 14 = .ok (.if_icmp .le 13, 3) := by decide +kernel
theorem d_R_checkPart_17 : decode c_R_checkPart 17 = .ok (.new 91, 3) := by decide +kernel
theorem d_R_checkPart_20 : decode c_R_checkPart 20 = .ok (.dup, 1) := by decide +kernel
theorem d_R_checkPart_21 : decode c_R_checkPart 21 = .ok (.ldc 138, 2) := by decide +kernel
theorem d_R_checkPart_23 : decode c_R_checkPart 23 = .ok (.invokespecial 95, 3) := by decide +kernel
theorem d_R_checkPart_26 : decode c_R_checkPart 26 = .ok (.athrow, 1) := by decide +kernel
theorem d_R_checkPart_27 : decode c_R_checkPart 27 = .ok (.return_, 1) := by decide +kernel
theorem d_R_descendTo_0 : decode c_R_descendTo 0 = .ok (.iconst 0, 1) := by decide +kernel
theorem d_R_descendTo_1 : decode c_R_descendTo 1 = .ok (.istore_n 2, 1) := by decide +kernel
theorem d_R_descendTo_2 : decode c_R_descendTo 2 = .ok (.iload_n 2, 1) := by decide +kernel
theorem d_R_descendTo_3 : decode c_R_descendTo 3 = .ok (.aload_n 0, 1) := by decide +kernel
theorem d_R_descendTo_4 : decode c_R_descendTo 4 = .ok (.getfield 54, 3) := by decide +kernel
theorem d_R_descendTo_7 : decode c_R_descendTo 7 = .ok (.arraylength, 1) := by decide +kernel
theorem d_R_descendTo_8 : decode c_R_descendTo 8 = .ok (.if_icmp .ge 38, 3) := by decide +kernel
theorem d_R_descendTo_11 : decode c_R_descendTo 11 = .ok (.aload_n 0, 1) := by decide +kernel
theorem d_R_descendTo_12 : decode c_R_descendTo 12 = .ok (.getfield 19, 3) := by decide +kernel
theorem d_R_descendTo_15 : decode c_R_descendTo 15 = .ok (.aload_n 0, 1) := by decide +kernel
theorem d_R_descendTo_16 : decode c_R_descendTo 16 = .ok (.getfield 54, 3) := by decide +kernel
theorem d_R_descendTo_19 : decode c_R_descendTo 19 = .ok (.iload_n 2, 1) := by decide +kernel
theorem d_R_descendTo_20 : decode c_R_descendTo 20 = .ok (.aaload, 1) := by decide +kernel
theorem d_R_descendTo_21 : decode c_R_descendTo 21 = .ok (.invokevirtual 156, 3) := by decide +kernel
theorem d_R_descendTo_24 : decode c_R_descendTo 24 = .ok (.aload_n 0, 1) := by decide +kernel
theorem d_R_descendTo_25 : decode c_R_descendTo 25 = .ok (.getfield 19, 3) := by decide +kernel
theorem d_R_descendTo_28 : decode c_R_descendTo 28 = .ok (.iload_n 1, 1) := by decide +kernel
theorem d_R_descendTo_29 : decode c_R_descendTo 29 = .ok (.aload_n 0, 1) := by decide +kernel
theorem d_R_descendTo_30 : decode c_R_descendTo 30 = .ok (.iload_n 2, 1) := by decide +kernel
theorem d_R_descendTo_31 : decode c_R_descendTo 31 = .ok (.invokevirtual 143, 3) := by decide +kernel
theorem d_R_descendTo_34 : decode c_R_descendTo 34 = .ok (.ishr, 1) := by decide +kernel
theorem d_R_descendTo_35 : decode c_R_descendTo 35 = .ok (.iconst 1, 1) := by decide +kernel
theorem d_R_descendTo_36 : decode c_R_descendTo 36 = .ok (.iand, 1) := by decide +kernel
theorem d_R_descendTo_37 : decode c_R_descendTo 37 = .ok (.invokevirtual 160, 3) := by decide +kernel
theorem d_R_descendTo_40 : decode c_R_descendTo 40 = .ok (.iinc 2 1, 3) := by decide +kernel
theorem d_R_descendTo_43 : decode c_R_descendTo 43 = .ok (.goto (-41), 3) := by decide +kernel
theorem d_R_descendTo_46 : decode c_R_descendTo 46 = .ok (.return_, 1) := by decide +kernel
theorem d_R_select_0 : decode c_R_select 0 = .ok (.aload_n 0, 1) := by decide +kernel
theorem d_R_select_1 : decode c_R_select 1 = .ok (.iload_n 1, 1) := by decide +kernel
theorem d_R_select_2 : decode c_R_select 2 = .ok (.invokevirtual 63, 3) := by decide +kernel
theorem d_R_select_5 : decode c_R_select 5 = .ok (.iload_n 2, 1) := by decide +kernel
theorem d_R_select_6 : decode c_R_select 6 = .ok (.invokestatic 110, 3) := by decide +kernel
theorem d_R_select_9 : decode c_R_select 9 = .ok (.aload_n 0, 1) := by decide +kernel
theorem d_R_select_10 : decode c_R_select 10 = .ok (.getfield 19, 3) := by decide +kernel
theorem d_R_select_13 : decode c_R_select 13 = .ok (.iconst 0, 1) := by decide +kernel
theorem d_R_select_14 : decode c_R_select 14 = .ok (.aload_n 0, 1) := by decide +kernel
theorem d_R_select_15 : decode c_R_select 15 = .ok (.getfield 74, 3) := by decide +kernel
theorem d_R_select_18 : decode c_R_select 18 = .ok (.invokevirtual 100, 3) := by decide +kernel
theorem d_R_select_21 : decode c_R_select 21 = .ok (.aload_n 0, 1) := by decide +kernel
theorem d_R_select_22 : decode c_R_select 22 = .ok (.iload_n 1, 1) := by decide +kernel
theorem d_R_select_23 : decode c_R_select 23 = .ok (.invokevirtual 103, 3) := by decide +kernel
theorem d_R_select_26 : decode c_R_select 26 = .ok (.iload_n 2, 1) := by decide +kernel
theorem d_R_select_27 : decode c_R_select 27 = .ok (.aload_n 0, 1) := by decide +kernel
theorem d_R_select_28 : decode c_R_select 28 = .ok (.getfield 19, 3) := by decide +kernel
theorem d_R_select_31 : decode c_R_select 31 = .ok (.invokevirtual 106, 3) := by decide +kernel
theorem d_R_select_34 : decode c_R_select 34 = .ok (.if_icmp .ge 19, 3) := by decide +kernel
theorem d_R_select_37 : decode c_R_select 37 = .ok (.aload_n 0, 1) := by decide +kernel
theorem d_R_select_38 : decode c_R_select 38 = .ok (.aload_n 0, 1) := by decide +kernel
theorem d_R_select_39 : decode c_R_select 39 = .ok (.getfield 19, 3) := by decide +kernel
theorem d_R_select_42 : decode c_R_select 42 = .ok (.getfield 113, 3) := by decide +kernel
theorem d_R_select_45 : decode c_R_select 45 = .ok (.iload_n 2, 1) := by decide +kernel
theorem d_R_select_46 : decode c_R_select 46 = .ok (.iadd, 1) := by decide +kernel
theorem d_R_select_47 : decode c_R_select 47 = .ok (.invokevirtual 116, 3) := by decide +kernel
theorem d_R_select_50 : decode c_R_select 50 = .ok (.goto 4, 3) := by decide +kernel
theorem d_R_select_53 : decode c_R_select 53 = .ok (.iconst (-1), 1) := by decide +kernel
theorem d_R_select_54 : decode c_R_select 54 = .ok (.ireturn, 1) := by decide +kernel
theorem d_R_checkNotNegative_0 : decode c_R_checkNotNegative 0 = .ok (.iload_n 0, 1) := by decide +kernel
theorem d_R_checkNotNegative_1 : decode c_R_checkNotNegative 1 = .ok (.ifCond .ge 13, 3) := by decide +kernel
theorem d_R_checkNotNegative_4 : decode c_R_checkNotNegative 4 = .ok (.new 91, 3) := by decide +kernel
theorem d_R_checkNotNegative_7 : decode c_R_checkNotNegative 7 = .ok (.dup, 1) := by decide +kernel
theorem d_R_checkNotNegative_8 : decode c_R_checkNotNegative 8 = .ok (.ldc 140, 2) := by decide +kernel
theorem d_R_checkNotNegative_10 : decode c_R_checkNotNegative 10 = .ok (.invokespecial 95, 3) := by decide +kernel
theorem d_R_checkNotNegative_13 : decode c_R_checkNotNegative 13 = .ok (.athrow, 1) := by decide +kernel
theorem d_R_checkNotNegative_14 : decode c_R_checkNotNegative 14 = .ok (.return_, 1) := by decide +kernel
theorem d_R_climbFrom_0 : decode c_R_climbFrom 0 = .ok (.iload_n 1, 1) := by decide +kernel
theorem d_R_climbFrom_1 : decode c_R_climbFrom 1 = .ok (.istore_n 2, 1) := by decide +kernel
theorem d_R_climbFrom_2 : decode c_R_climbFrom 2 = .ok (.aload_n 0, 1) := by decide +kernel
theorem d_R_climbFrom_3 : decode c_R_climbFrom 3 = .ok (.getfield 54, 3) := by decide +kernel
theorem d_R_climbFrom_6 : decode c_R_climbFrom 6 = .ok (.arraylength, 1) := by decide +kernel
theorem d_R_climbFrom_7 : decode c_R_climbFrom 7 = .ok (.iconst 1, 1) := by decide +kernel
theorem d_R_climbFrom_8 : decode c_R_climbFrom 8 = .ok (.isub, 1) := by decide +kernel
theorem d_R_climbFrom_9 : decode c_R_climbFrom 9 = .ok (.istore_n 3, 1) := by decide +kernel
theorem d_R_climbFrom_10 : decode c_R_climbFrom 10 = .ok (.iload_n 3, 1) := by decide +kernel
theorem d_R_climbFrom_11 : decode c_R_climbFrom 11 = .ok (.ifCond .lt 24, 3) := by decide +kernel
theorem d_R_climbFrom_14 : decode c_R_climbFrom 14 = .ok (.aload_n 0, 1) := by decide +kernel
theorem d_R_climbFrom_15 : decode c_R_climbFrom 15 = .ok (.getfield 54, 3) := by decide +kernel
theorem d_R_climbFrom_18 : decode c_R_climbFrom 18 = .ok (.iload_n 3, 1) := by decide +kernel
theorem d_R_climbFrom_19 : decode c_R_climbFrom 19 = .ok (.aaload, 1) := by decide +kernel
theorem d_R_climbFrom_20 : decode c_R_climbFrom 20 = .ok (.iload_n 2, 1) := by decide +kernel
theorem d_R_climbFrom_21 : decode c_R_climbFrom 21 = .ok (.aload_n 0, 1) := by decide +kernel
theorem d_R_climbFrom_22 : decode c_R_climbFrom 22 = .ok (.getfield 74, 3) := by decide +kernel
theorem d_R_climbFrom_25 : decode c_R_climbFrom 25 = .ok (.invokevirtual 163, 3) := by decide +kernel
theorem d_R_climbFrom_28 : decode c_R_climbFrom 28 = .ok (.istore_n 2, 1) := by decide +kernel
theorem d_R_climbFrom_29 : decode c_R_climbFrom 29 = .ok (.iinc 3 (-1), 3) := by decide +kernel
theorem d_R_climbFrom_32 : decode c_R_climbFrom 32 = .ok (.goto (-22), 3) := by decide +kernel
theorem d_R_climbFrom_35 : decode c_R_climbFrom 35 = .ok (.iload_n 2, 1) := by decide +kernel
theorem d_R_climbFrom_36 : decode c_R_climbFrom 36 = .ok (.ireturn, 1) := by decide +kernel
theorem d_R_quantile_0 : decode c_R_quantile 0 = .ok (.aload_n 0, 1) := by decide +kernel
theorem d_R_quantile_1 : decode c_R_quantile 1 = .ok (.iload_n 1, 1) := by decide +kernel
theorem d_R_quantile_2 : decode c_R_quantile 2 = .ok (.iload_n 2, 1) := by decide +kernel
theorem d_R_quantile_3 : decode c_R_quantile 3 = .ok (.invokevirtual 96, 3) := by decide +kernel
theorem d_R_quantile_6 : decode c_R_quantile 6 = .ok (.iload_n 3, 1) := by decide +kernel
theorem d_R_quantile_7 : decode c_R_quantile 7 = .ok (.invokestatic 110, 3) := by decide +kernel
theorem d_R_quantile_10 : decode c_R_quantile 10 = .ok (.iload_n 3, 1) := by decide +kernel
theorem d_R_quantile_11 : decode c_R_quantile 11 = .ok (.iload_n 2, 1) := by decide +kernel
theorem d_R_quantile_12 : decode c_R_quantile 12 = .ok (.iload_n 1, 1) := by decide +kernel
theorem d_R_quantile_13 : decode c_R_quantile 13 = .ok (.isub, 1) := by decide +kernel
theorem d_R_quantile_14 : decode c_R_quantile 14 = .ok (.if_icmp .lt 13, 3) := by decide +kernel
theorem d_R_quantile_17 : decode c_R_quantile 17 = .ok (.new 91, 3) := by decide +kernel
theorem d_R_quantile_20 : decode c_R_quantile 20 = .ok (.dup, 1) := by decide +kernel
theorem d_R_quantile_21 : decode c_R_quantile 21 = .ok (.ldc 119, 2) := by decide +kernel
theorem d_R_quantile_23 : decode c_R_quantile 23 = .ok (.invokespecial 95, 3) := by decide +kernel
theorem d_R_quantile_26 : decode c_R_quantile 26 = .ok (.athrow, 1) := by decide +kernel
theorem d_R_quantile_27 : decode c_R_quantile 27 = .ok (.aload_n 0, 1) := by decide +kernel
theorem d_R_quantile_28 : decode c_R_quantile 28 = .ok (.iload_n 1, 1) := by decide +kernel
theorem d_R_quantile_29 : decode c_R_quantile 29 = .ok (.iload_n 2, 1) := by decide +kernel
theorem d_R_quantile_30 : decode c_R_quantile 30 = .ok (.iload_n 3, 1) := by decide +kernel
theorem d_R_quantile_31 : decode c_R_quantile 31 = .ok (.invokevirtual 121, 3) := by decide +kernel
theorem d_R_quantile_34 : decode c_R_quantile 34 = .ok (.ireturn, 1) := by decide +kernel
theorem d_R_kthLeast_0 : decode c_R_kthLeast 0 = .ok (.aload_n 0, 1) := by decide +kernel
theorem d_R_kthLeast_1 : decode c_R_kthLeast 1 = .ok (.getfield 19, 3) := by decide +kernel
theorem d_R_kthLeast_4 : decode c_R_kthLeast 4 = .ok (.iload_n 1, 1) := by decide +kernel
theorem d_R_kthLeast_5 : decode c_R_kthLeast 5 = .ok (.iload_n 2, 1) := by decide +kernel
theorem d_R_kthLeast_6 : decode c_R_kthLeast 6 = .ok (.invokevirtual 100, 3) := by decide +kernel
theorem d_R_kthLeast_9 : decode c_R_kthLeast 9 = .ok (.iload_n 3, 1) := by decide +kernel
theorem d_R_kthLeast_10 : decode c_R_kthLeast 10 = .ok (.istore 4, 2) := by decide +kernel
theorem d_R_kthLeast_12 : decode c_R_kthLeast 12 = .ok (.iconst 0, 1) := by decide +kernel
theorem d_R_kthLeast_13 : decode c_R_kthLeast 13 = .ok (.istore 5, 2) := by decide +kernel
theorem d_R_kthLeast_15 : decode c_R_kthLeast 15 = .ok (.iconst 0, 1) := by decide +kernel
theorem d_R_kthLeast_16 : decode c_R_kthLeast 16 = .ok (.istore 6, 2) := by decide +kernel
theorem d_R_kthLeast_18 : decode c_R_kthLeast 18 = .ok (.iload 6, 2) := by decide +kernel
theorem d_R_kthLeast_20 : decode c_R_kthLeast 20 = .ok (.aload_n 0, 1) := by decide +kernel
theorem d_R_kthLeast_21 : decode c_R_kthLeast 21 = .ok (.getfield 54, 3) := by decide +kernel
theorem d_R_kthLeast_24 : decode c_R_kthLeast 24 = .ok (.arraylength, 1) := by decide +kernel
theorem d_R_kthLeast_25 : decode c_R_kthLeast 25 = .ok (.if_icmp .ge 81, 3) := by decide +kernel
theorem d_R_kthLeast_28 : decode c_R_kthLeast 28 = .ok (.aload_n 0, 1) := by decide +kernel
theorem d_R_kthLeast_29 : decode c_R_kthLeast 29 = .ok (.getfield 19, 3) := by decide +kernel
theorem d_R_kthLeast_32 : decode c_R_kthLeast 32 = .ok (.aload_n 0, 1) := by decide +kernel
theorem d_R_kthLeast_33 : decode c_R_kthLeast 33 = .ok (.getfield 54, 3) := by decide +kernel
theorem d_R_kthLeast_36 : decode c_R_kthLeast 36 = .ok (.iload 6, 2) := by decide +kernel
theorem d_R_kthLeast_38 : decode c_R_kthLeast 38 = .ok (.aaload, 1) := by decide +kernel
theorem d_R_kthLeast_39 : decode c_R_kthLeast 39 = .ok (.invokevirtual 156, 3) := by decide +kernel
theorem d_R_kthLeast_42 : decode c_R_kthLeast 42 = .ok (.iload 4, 2) := by decide +kernel
theorem d_R_kthLeast_44 : decode c_R_kthLeast 44 = .ok (.aload_n 0, 1) := by decide +kernel
theorem d_R_kthLeast_45 : decode c_R_kthLeast 45 = .ok (.getfield 19, 3) := by decide +kernel
theorem d_R_kthLeast_48 : decode c_R_kthLeast 48 = .ok (.invokevirtual 166, 3) := by decide +kernel
theorem d_R_kthLeast_51 : decode c_R_kthLeast 51 = .ok (.if_icmp .ge 7, 3) := by decide +kernel
theorem d_R_kthLeast_54 : decode c_R_kthLeast 54 = .ok (.iconst 0, 1) := by decide +kernel
theorem d_R_kthLeast_55 : decode c_R_kthLeast 55 = .ok (.goto 4, 3) := by decide +kernel
theorem d_R_kthLeast_58 : decode c_R_kthLeast 58 = .ok (.iconst 1, 1) := by decide +kernel
theorem d_R_kthLeast_59 : decode c_R_kthLeast 59 = .ok (.istore 7, 2) := by decide +kernel
theorem d_R_kthLeast_61 : decode c_R_kthLeast 61 = .ok (.iload 4, 2) := by decide +kernel
theorem d_R_kthLeast_63 : decode c_R_kthLeast 63 = .ok (.iload 7, 2) := by decide +kernel
theorem d_R_kthLeast_65 : decode c_R_kthLeast 65 = .ok (.ifCond .ne 7, 3) := by decide +kernel
theorem d_R_kthLeast_68 : decode c_R_kthLeast 68 = .ok (.iconst 0, 1) := by decide +kernel
theorem d_R_kthLeast_69 : decode c_R_kthLeast 69 = .ok (.goto 10, 3) := by decide +kernel
theorem d_R_kthLeast_72 : decode c_R_kthLeast 72 = .ok (.aload_n 0, 1) := by decide +kernel
theorem d_R_kthLeast_73 : decode c_R_kthLeast 73 = .ok (.getfield 19, 3) := by decide +kernel
theorem d_R_kthLeast_76 : decode c_R_kthLeast 76 = .ok (.invokevirtual 166, 3) := by decide +kernel
theorem d_R_kthLeast_79 : decode c_R_kthLeast 79 = .ok (.isub, 1) := by decide +kernel
theorem d_R_kthLeast_80 : decode c_R_kthLeast 80 = .ok (.istore 4, 2) := by decide +kernel
theorem d_R_kthLeast_82 : decode c_R_kthLeast 82 = .ok (.aload_n 0, 1) := by decide +kernel
theorem d_R_kthLeast_83 : decode c_R_kthLeast 83 = .ok (.getfield 19, 3) := by decide +kernel
theorem d_R_kthLeast_86 : decode c_R_kthLeast 86 = .ok (.iload 7, 2) := by decide +kernel
theorem d_R_kthLeast_88 : decode c_R_kthLeast 88 = .ok (.invokevirtual 160, 3) := by decide +kernel
theorem d_R_kthLeast_91 : decode c_R_kthLeast 91 = .ok (.iload 5, 2) := by decide +kernel
theorem d_R_kthLeast_93 : decode c_R_kthLeast 93 = .ok (.iconst 1, 1) := by decide +kernel
theorem d_R_kthLeast_94 : decode c_R_kthLeast 94 = .ok (.ishl, 1) := by decide +kernel
theorem d_R_kthLeast_95 : decode c_R_kthLeast 95 = .ok (.iload 7, 2) := by decide +kernel
theorem d_R_kthLeast_97 : decode c_R_kthLeast 97 = .ok (.ior, 1) := by decide +kernel
theorem d_R_kthLeast_98 : decode c_R_kthLeast 98 = .ok (.istore 5, 2) := by decide +kernel
theorem d_R_kthLeast_100 : decode c_R_kthLeast 100 = .ok (.iinc 6 1, 3) := by decide +kernel
theorem d_R_kthLeast_103 : decode c_R_kthLeast 103 = .ok (.goto (-85), 3) := by decide +kernel
theorem d_R_kthLeast_106 : decode c_R_kthLeast 106 = .ok (.iload 5, 2) := by decide +kernel
theorem d_R_kthLeast_108 : decode c_R_kthLeast 108 = .ok (.ireturn, 1) := by decide +kernel
theorem d_R_between_0 : decode c_R_between 0 = .ok (.aload_n 0, 1) := by decide +kernel
theorem d_R_between_1 : decode c_R_between 1 = .ok (.iload_n 1, 1) := by decide +kernel
theorem d_R_between_2 : decode c_R_between 2 = .ok (.iload_n 2, 1) := by decide +kernel
theorem d_R_between_3 : decode c_R_between 3 = .ok (.invokevirtual 96, 3) := by decide +kernel
theorem d_R_between_6 : decode c_R_between 6 = .ok (.iload_n 3, 1) := by decide +kernel
theorem d_R_between_7 : decode c_R_between 7 = .ok (.iload 4, 2) := by decide +kernel
theorem d_R_between_9 : decode c_R_between 9 = .ok (.if_icmp .ge 22, 3) := by decide +kernel
theorem d_R_between_12 : decode c_R_between 12 = .ok (.aload_n 0, 1) := by decide +kernel
theorem d_R_between_13 : decode c_R_between 13 = .ok (.iload_n 1, 1) := by decide +kernel
theorem d_R_between_14 : decode c_R_between 14 = .ok (.iload_n 2, 1) := by decide +kernel
theorem d_R_between_15 : decode c_R_between 15 = .ok (.iload 4, 2) := by decide +kernel
theorem d_R_between_17 : decode c_R_between 17 = .ok (.invokevirtual 125, 3) := by decide +kernel
theorem d_R_between_20 : decode c_R_between 20 = .ok (.aload_n 0, 1) := by decide +kernel
theorem d_R_between_21 : decode c_R_between 21 = .ok (.iload_n 1, 1) := by decide +kernel
theorem d_R_between_22 : decode c_R_between 22 = .ok (.iload_n 2, 1) := by decide +kernel
theorem d_R_between_23 : decode c_R_between 23 = .ok (.iload_n 3, 1) := by decide +kernel
theorem d_R_between_24 : decode c_R_between 24 = .ok (.invokevirtual 125, 3) := by decide +kernel
theorem d_R_between_27 : decode c_R_between 27 = .ok (.isub, 1) := by decide +kernel
theorem d_R_between_28 : decode c_R_between 28 = .ok (.goto 4, 3) := by decide +kernel
theorem d_R_between_31 : decode c_R_between 31 = .ok (.iconst 0, 1) := by decide +kernel
theorem d_R_between_32 : decode c_R_between 32 = .ok (.ireturn, 1) := by decide +kernel
theorem d_R_howManyBelow_0 : decode c_R_howManyBelow 0 = .ok (.iload_n 3, 1) := by decide +kernel
theorem d_R_howManyBelow_1 : decode c_R_howManyBelow 1 = .ok (.ifCond .gt 5, 3) := by decide +kernel
theorem d_R_howManyBelow_4 : decode c_R_howManyBelow 4 = .ok (.iconst 0, 1) := by decide +kernel
theorem d_R_howManyBelow_5 : decode c_R_howManyBelow 5 = .ok (.ireturn, 1) := by decide +kernel
theorem d_R_howManyBelow_6 : decode c_R_howManyBelow 6 = .ok (.iload_n 3, 1) := by decide +kernel
theorem d_R_howManyBelow_7 : decode c_R_howManyBelow 7 = .ok (.aload_n 0, 1) := by decide +kernel
theorem d_R_howManyBelow_8 : decode c_R_howManyBelow 8 = .ok (.getfield 42, 3) := by decide +kernel
theorem d_R_howManyBelow_11 : decode c_R_howManyBelow 11 = .ok (.if_icmp .lt 7, 3) := by decide +kernel
theorem d_R_howManyBelow_14 : decode c_R_howManyBelow 14 = .ok (.iload_n 2, 1) := by decide +kernel
theorem d_R_howManyBelow_15 : decode c_R_howManyBelow 15 = .ok (.iload_n 1, 1) := by decide +kernel
theorem d_R_howManyBelow_16 : decode c_R_howManyBelow 16 = .ok (.isub, 1) := by decide +kernel
theorem d_R_howManyBelow_17 : decode c_R_howManyBelow 17 = .ok (.ireturn, 1) := by decide +kernel
theorem d_R_howManyBelow_18 : decode c_R_howManyBelow 18 = .ok (.aload_n 0, 1) := by decide +kernel
theorem d_R_howManyBelow_19 : decode c_R_howManyBelow 19 = .ok (.getfield 19, 3) := by decide +kernel
theorem d_R_howManyBelow_22 : decode c_R_howManyBelow 22 = .ok (.iload_n 1, 1) := by decide +kernel
theorem d_R_howManyBelow_23 : decode c_R_howManyBelow 23 = .ok (.iload_n 2, 1) := by decide +kernel
theorem d_R_howManyBelow_24 : decode c_R_howManyBelow 24 = .ok (.invokevirtual 100, 3) := by decide +kernel
theorem d_R_howManyBelow_27 : decode c_R_howManyBelow 27 = .ok (.iconst 0, 1) := by decide +kernel
theorem d_R_howManyBelow_28 : decode c_R_howManyBelow 28 = .ok (.istore 4, 2) := by decide +kernel
theorem d_R_howManyBelow_30 : decode c_R_howManyBelow 30 = .ok (.iconst 0, 1) := by decide +kernel
theorem d_R_howManyBelow_31 : decode c_R_howManyBelow 31 = .ok (.istore 5, 2) := by decide +kernel
theorem d_R_howManyBelow_33 : decode c_R_howManyBelow 33 = .ok (.iload 5, 2) := by decide +kernel
theorem d_R_howManyBelow_35 : decode c_R_howManyBelow 35 = .ok (.aload_n 0, 1) := by decide +kernel
theorem d_R_howManyBelow_36 : decode c_R_howManyBelow 36 = .ok (.getfield 54, 3) := by decide +kernel
theorem d_R_howManyBelow_39 : decode c_R_howManyBelow 39 = .ok (.arraylength, 1) := by decide +kernel
theorem d_R_howManyBelow_40 : decode c_R_howManyBelow 40 = .ok (.if_icmp .ge 65, 3) := by decide +kernel
theorem d_R_howManyBelow_43 : decode c_R_howManyBelow 43 = .ok (.aload_n 0, 1) := by decide +kernel
theorem d_R_howManyBelow_44 : decode c_R_howManyBelow 44 = .ok (.getfield 19, 3) := by decide +kernel
theorem d_R_howManyBelow_47 : decode c_R_howManyBelow 47 = .ok (.aload_n 0, 1) := by decide +kernel
theorem d_R_howManyBelow_48 : decode c_R_howManyBelow 48 = .ok (.getfield 54, 3) := by decide +kernel
theorem d_R_howManyBelow_51 : decode c_R_howManyBelow 51 = .ok (.iload 5, 2) := by decide +kernel
theorem d_R_howManyBelow_53 : decode c_R_howManyBelow 53 = .ok (.aaload, 1) := by decide +kernel
theorem d_R_howManyBelow_54 : decode c_R_howManyBelow 54 = .ok (.invokevirtual 156, 3) := by decide +kernel
theorem d_R_howManyBelow_57 : decode c_R_howManyBelow 57 = .ok (.iload_n 3, 1) := by decide +kernel
theorem d_R_howManyBelow_58 : decode c_R_howManyBelow 58 = .ok (.aload_n 0, 1) := by decide +kernel
theorem d_R_howManyBelow_59 : decode c_R_howManyBelow 59 = .ok (.iload 5, 2) := by decide +kernel
theorem d_R_howManyBelow_61 : decode c_R_howManyBelow 61 = .ok (.invokevirtual 143, 3) := by decide +kernel
theorem d_R_howManyBelow_64 : decode c_R_howManyBelow 64 = .ok (.ishr, 1) := by decide +kernel
theorem d_R_howManyBelow_65 : decode c_R_howManyBelow 65 = .ok (.iconst 1, 1) := by decide +kernel
theorem d_R_howManyBelow_66 : decode c_R_howManyBelow 66 = .ok (.iand, 1) := by decide +kernel
theorem d_R_howManyBelow_67 : decode c_R_howManyBelow 67 = .ok (.istore 6, 2) := by decide +kernel
theorem d_R_howManyBelow_69 : decode c_R_howManyBelow 69 = .ok (.iload 4, 2) := by decide +kernel
theorem d_R_howManyBelow_71 : decode c_R_howManyBelow 71 = .ok (.iload 6, 2) := by decide +kernel
theorem d_R_howManyBelow_73 : decode c_R_howManyBelow 73 = .ok (.ifCond .ne 7, 3) := by decide +kernel
theorem d_R_howManyBelow_76 : decode c_R_howManyBelow 76 = .ok (.iconst 0, 1) := by decide +kernel
theorem d_R_howManyBelow_77 : decode c_R_howManyBelow 77 = .ok (.goto 10, 3) := by decide +kernel
theorem d_R_howManyBelow_80 : decode c_R_howManyBelow 80 = .ok (.aload_n 0, 1) := by decide +kernel
theorem d_R_howManyBelow_81 : decode c_R_howManyBelow 81 = .ok (.getfield 19, 3) := by decide +kernel
theorem d_R_howManyBelow_84 : decode c_R_howManyBelow 84 = .ok (.invokevirtual 166, 3) := by decide +kernel
theorem d_R_howManyBelow_87 : decode c_R_howManyBelow 87 = .ok (.iadd, 1) := by decide +kernel
theorem d_R_howManyBelow_88 : decode c_R_howManyBelow 88 = .ok (.istore 4, 2) := by decide +kernel
theorem d_R_howManyBelow_90 : decode c_R_howManyBelow 90 = .ok (.aload_n 0, 1) := by decide +kernel
theorem d_R_howManyBelow_91 : decode c_R_howManyBelow 91 = .ok (.getfield 19, 3) := by decide +kernel
theorem d_R_howManyBelow_94 : decode c_R_howManyBelow 94 = .ok (.iload 6, 2) := by decide +kernel
theorem d_R_howManyBelow_96 : decode c_R_howManyBelow 96 = .ok (.invokevirtual 160, 3) := by decide +kernel
theorem d_R_howManyBelow_99 : decode c_R_howManyBelow 99 = .ok (.iinc 5 1, 3) := by decide +kernel
theorem d_R_howManyBelow_102 : decode c_R_howManyBelow 102 = .ok (.goto (-69), 3) := by decide +kernel
theorem d_R_howManyBelow_105 : decode c_R_howManyBelow 105 = .ok (.iload 4, 2) := by decide +kernel
theorem d_R_howManyBelow_107 : decode c_R_howManyBelow 107 = .ok (.ireturn, 1) := by decide +kernel
theorem d_R_below_0 : decode c_R_below 0 = .ok (.aload_n 0, 1) := by decide +kernel
theorem d_R_below_1 : decode c_R_below 1 = .ok (.iload_n 1, 1) := by decide +kernel
theorem d_R_below_2 : decode c_R_below 2 = .ok (.iload_n 2, 1) := by decide +kernel
theorem d_R_below_3 : decode c_R_below 3 = .ok (.invokevirtual 96, 3) := by decide +kernel
theorem d_R_below_6 : decode c_R_below 6 = .ok (.aload_n 0, 1) := by decide +kernel
theorem d_R_below_7 : decode c_R_below 7 = .ok (.iload_n 1, 1) := by decide +kernel
theorem d_R_below_8 : decode c_R_below 8 = .ok (.iload_n 2, 1) := by decide +kernel
theorem d_R_below_9 : decode c_R_below 9 = .ok (.iload_n 3, 1) := by decide +kernel
theorem d_R_below_10 : decode c_R_below 10 = .ok (.invokevirtual 125, 3) := by decide +kernel
theorem d_R_below_13 : decode c_R_below 13 = .ok (.istore 4, 2) := by decide +kernel
theorem d_R_below_15 : decode c_R_below 15 = .ok (.iload 4, 2) := by decide +kernel
theorem d_R_below_17 : decode c_R_below 17 = .ok (.ifCond .le 16, 3) := by decide +kernel
theorem d_R_below_20 : decode c_R_below 20 = .ok (.aload_n 0, 1) := by decide +kernel
theorem d_R_below_21 : decode c_R_below 21 = .ok (.iload_n 1, 1) := by decide +kernel
theorem d_R_below_22 : decode c_R_below 22 = .ok (.iload_n 2, 1) := by decide +kernel
theorem d_R_below_23 : decode c_R_below 23 = .ok (.iload 4, 2) := by decide +kernel
theorem d_R_below_25 : decode c_R_below 25 = .ok (.iconst 1, 1) := by decide +kernel
theorem d_R_below_26 : decode c_R_below 26 = .ok (.isub, 1) := by decide +kernel
theorem d_R_below_27 : decode c_R_below 27 = .ok (.invokevirtual 121, 3) := by decide +kernel
theorem d_R_below_30 : decode c_R_below 30 = .ok (.goto 4, 3) := by decide +kernel
theorem d_R_below_33 : decode c_R_below 33 = .ok (.iconst (-1), 1) := by decide +kernel
theorem d_R_below_34 : decode c_R_below 34 = .ok (.ireturn, 1) := by decide +kernel
theorem d_R_above_0 : decode c_R_above 0 = .ok (.aload_n 0, 1) := by decide +kernel
theorem d_R_above_1 : decode c_R_above 1 = .ok (.iload_n 1, 1) := by decide +kernel
theorem d_R_above_2 : decode c_R_above 2 = .ok (.iload_n 2, 1) := by decide +kernel
theorem d_R_above_3 : decode c_R_above 3 = .ok (.invokevirtual 96, 3) := by decide +kernel
theorem d_R_above_6 : decode c_R_above 6 = .ok (.aload_n 0, 1) := by decide +kernel
theorem d_R_above_7 : decode c_R_above 7 = .ok (.iload_n 1, 1) := by decide +kernel
theorem d_R_above_8 : decode c_R_above 8 = .ok (.iload_n 2, 1) := by decide +kernel
theorem d_R_above_9 : decode c_R_above 9 = .ok (.iload_n 3, 1) := by decide +kernel
theorem d_R_above_10 : decode c_R_above 10 = .ok (.invokevirtual 125, 3) := by decide +kernel
theorem d_R_above_13 : decode c_R_above 13 = .ok (.istore 4, 2) := by decide +kernel
theorem d_R_above_15 : decode c_R_above 15 = .ok (.iload 4, 2) := by decide +kernel
theorem d_R_above_17 : decode c_R_above 17 = .ok (.iload_n 2, 1) := by decide +kernel
theorem d_R_above_18 : decode c_R_above 18 = .ok (.iload_n 1, 1) := by decide +kernel
theorem d_R_above_19 : decode c_R_above 19 = .ok (.isub, 1) := by decide +kernel
theorem d_R_above_20 : decode c_R_above 20 = .ok (.if_icmp .ge 14, 3) := by decide +kernel
theorem d_R_above_23 : decode c_R_above 23 = .ok (.aload_n 0, 1) := by decide +kernel
theorem d_R_above_24 : decode c_R_above 24 = .ok (.iload_n 1, 1) := by decide +kernel
theorem d_R_above_25 : decode c_R_above 25 = .ok (.iload_n 2, 1) := by decide +kernel
theorem d_R_above_26 : decode c_R_above 26 = .ok (.iload 4, 2) := by decide +kernel
theorem d_R_above_28 : decode c_R_above 28 = .ok (.invokevirtual 121, 3) := by decide +kernel
theorem d_R_above_31 : decode c_R_above 31 = .ok (.goto 4, 3) := by decide +kernel
theorem d_R_above_34 : decode c_R_above 34 = .ok (.iconst (-1), 1) := by decide +kernel
theorem d_R_above_35 : decode c_R_above 35 = .ok (.ireturn, 1) := by decide +kernel
theorem d_R_different_0 : decode c_R_different 0 = .ok (.aload_n 0, 1) := by decide +kernel
theorem d_R_different_1 : decode c_R_different 1 = .ok (.iload_n 1, 1) := by decide +kernel
theorem d_R_different_2 : decode c_R_different 2 = .ok (.iload_n 2, 1) := by decide +kernel
theorem d_R_different_3 : decode c_R_different 3 = .ok (.invokevirtual 96, 3) := by decide +kernel
theorem d_R_different_6 : decode c_R_different 6 = .ok (.aload_n 0, 1) := by decide +kernel
theorem d_R_different_7 : decode c_R_different 7 = .ok (.iload_n 1, 1) := by decide +kernel
theorem d_R_different_8 : decode c_R_different 8 = .ok (.iload_n 2, 1) := by decide +kernel
theorem d_R_different_9 : decode c_R_different 9 = .ok (.invokevirtual 128, 3) := by decide +kernel
theorem d_R_different_12 : decode c_R_different 12 = .ok (.ireturn, 1) := by decide +kernel
theorem d_R_listSymbols_0 : decode c_R_listSymbols 0 = .ok (.iconst 0, 1) := by decide +kernel
theorem d_R_listSymbols_1 : decode c_R_listSymbols 1 = .ok (.istore_n 3, 1) := by decide +kernel
theorem d_R_listSymbols_2 : decode c_R_listSymbols 2 = .ok (.iconst 0, 1) := by decide +kernel
theorem d_R_listSymbols_3 : decode c_R_listSymbols 3 = .ok (.istore 4, 2) := by decide +kernel
theorem d_R_listSymbols_5 : decode c_R_listSymbols 5 = .ok (.iload 4, 2) := by decide +kernel
theorem d_R_listSymbols_7 : decode c_R_listSymbols 7 = .ok (.iload_n 2, 1) := by decide +kernel
theorem d_R_listSymbols_8 : decode c_R_listSymbols 8 = .ok (.iload_n 1, 1) := by decide +kernel
theorem d_R_listSymbols_9 : decode c_R_listSymbols 9 = .ok (.isub, 1) := by decide +kernel
theorem d_R_listSymbols_10 : decode c_R_listSymbols 10 = .ok (.if_icmp .ge 60, 3) := by decide +kernel
theorem d_R_listSymbols_13 : decode c_R_listSymbols 13 = .ok (.aload_n 0, 1) := by decide +kernel
theorem d_R_listSymbols_14 : decode c_R_listSymbols 14 = .ok (.getfield 23, 3) := by decide +kernel
theorem d_R_listSymbols_17 : decode c_R_listSymbols 17 = .ok (.iload_n 3, 1) := by decide +kernel
theorem d_R_listSymbols_18 : decode c_R_listSymbols 18 = .ok (.aload_n 0, 1) := by decide +kernel
theorem d_R_listSymbols_19 : decode c_R_listSymbols 19 = .ok (.iload_n 1, 1) := by decide +kernel
theorem d_R_listSymbols_20 : decode c_R_listSymbols 20 = .ok (.iload_n 2, 1) := by decide +kernel
theorem d_R_listSymbols_21 : decode c_R_listSymbols 21 = .ok (.iload 4, 2) := by decide +kernel
theorem d_R_listSymbols_23 : decode c_R_listSymbols 23 = .ok (.invokevirtual 121, 3) := by decide +kernel
theorem d_R_listSymbols_26 : decode c_R_listSymbols 26 = .ok (.iastore, 1) := by decide +kernel
theorem d_R_listSymbols_27 : decode c_R_listSymbols 27 = .ok (.iconst 1, 1) := by decide +kernel
theorem d_R_listSymbols_28 : decode c_R_listSymbols 28 = .ok (.aload_n 0, 1) := by decide +kernel
theorem d_R_listSymbols_29 : decode c_R_listSymbols 29 = .ok (.getfield 19, 3) := by decide +kernel
theorem d_R_listSymbols_32 : decode c_R_listSymbols 32 = .ok (.invokevirtual 106, 3) := by decide +kernel
theorem d_R_listSymbols_35 : decode c_R_listSymbols 35 = .ok (.iload_n 2, 1) := by decide +kernel
theorem d_R_listSymbols_36 : decode c_R_listSymbols 36 = .ok (.iload_n 1, 1) := by decide +kernel
theorem d_R_listSymbols_37 : decode c_R_listSymbols 37 = .ok (.isub, 1) := by decide +kernel
theorem d_R_listSymbols_38 : decode c_R_listSymbols 38 = .ok (.iload 4, 2) := by decide +kernel
theorem d_R_listSymbols_40 : decode c_R_listSymbols 40 = .ok (.isub, 1) := by decide +kernel
theorem d_R_listSymbols_41 : decode c_R_listSymbols 41 = .ok (.invokestatic 33, 3) := by decide +kernel
theorem d_R_listSymbols_44 : decode c_R_listSymbols 44 = .ok (.invokestatic 39, 3) := by decide +kernel
theorem d_R_listSymbols_47 : decode c_R_listSymbols 47 = .ok (.istore 5, 2) := by decide +kernel
theorem d_R_listSymbols_49 : decode c_R_listSymbols 49 = .ok (.aload_n 0, 1) := by decide +kernel
theorem d_R_listSymbols_50 : decode c_R_listSymbols 50 = .ok (.getfield 26, 3) := by decide +kernel
theorem d_R_listSymbols_53 : decode c_R_listSymbols 53 = .ok (.iload_n 3, 1) := by decide +kernel
theorem d_R_listSymbols_54 : decode c_R_listSymbols 54 = .ok (.iload 5, 2) := by decide +kernel
theorem d_R_listSymbols_56 : decode c_R_listSymbols 56 = .ok (.iastore, 1) := by decide +kernel
theorem d_R_listSymbols_57 : decode c_R_listSymbols 57 = .ok (.iload 4, 2) := by decide +kernel
theorem d_R_listSymbols_59 : decode c_R_listSymbols 59 = .ok (.iload 5, 2) := by decide +kernel
theorem d_R_listSymbols_61 : decode c_R_listSymbols 61 = .ok (.iadd, 1) := by decide +kernel
theorem d_R_listSymbols_62 : decode c_R_listSymbols 62 = .ok (.istore 4, 2) := by decide +kernel
theorem d_R_listSymbols_64 : decode c_R_listSymbols 64 = .ok (.iinc 3 1, 3) := by decide +kernel
theorem d_R_listSymbols_67 : decode c_R_listSymbols 67 = .ok (.goto (-62), 3) := by decide +kernel
theorem d_R_listSymbols_70 : decode c_R_listSymbols 70 = .ok (.iload_n 3, 1) := by decide +kernel
theorem d_R_listSymbols_71 : decode c_R_listSymbols 71 = .ok (.ireturn, 1) := by decide +kernel
theorem d_R_frequent_0 : decode c_R_frequent 0 = .ok (.aload_n 0, 1) := by decide +kernel
theorem d_R_frequent_1 : decode c_R_frequent 1 = .ok (.iload_n 1, 1) := by decide +kernel
theorem d_R_frequent_2 : decode c_R_frequent 2 = .ok (.iload_n 2, 1) := by decide +kernel
theorem d_R_frequent_3 : decode c_R_frequent 3 = .ok (.invokevirtual 96, 3) := by decide +kernel
theorem d_R_frequent_6 : decode c_R_frequent 6 = .ok (.iload_n 3, 1) := by decide +kernel
theorem d_R_frequent_7 : decode c_R_frequent 7 = .ok (.invokestatic 110, 3) := by decide +kernel
theorem d_R_frequent_10 : decode c_R_frequent 10 = .ok (.aload_n 0, 1) := by decide +kernel
theorem d_R_frequent_11 : decode c_R_frequent 11 = .ok (.iload_n 1, 1) := by decide +kernel
theorem d_R_frequent_12 : decode c_R_frequent 12 = .ok (.iload_n 2, 1) := by decide +kernel
theorem d_R_frequent_13 : decode c_R_frequent 13 = .ok (.invokevirtual 128, 3) := by decide +kernel
theorem d_R_frequent_16 : decode c_R_frequent 16 = .ok (.istore 4, 2) := by decide +kernel
theorem d_R_frequent_18 : decode c_R_frequent 18 = .ok (.aload_n 0, 1) := by decide +kernel
theorem d_R_frequent_19 : decode c_R_frequent 19 = .ok (.iload 4, 2) := by decide +kernel
theorem d_R_frequent_21 : decode c_R_frequent 21 = .ok (.invokevirtual 131, 3) := by decide +kernel
theorem d_R_frequent_24 : decode c_R_frequent 24 = .ok (.iconst 0, 1) := by decide +kernel
theorem d_R_frequent_25 : decode c_R_frequent 25 = .ok (.istore 5, 2) := by decide +kernel
theorem d_R_frequent_27 : decode c_R_frequent 27 = .ok (.iload 5, 2) := by decide +kernel
theorem d_R_frequent_29 : decode c_R_frequent 29 = .ok (.iload 4, 2) := by decide +kernel
theorem d_R_frequent_31 : decode c_R_frequent 31 = .ok (.if_icmp .ge 42, 3) := by decide +kernel
theorem d_R_frequent_34 : decode c_R_frequent 34 = .ok (.aload_n 0, 1) := by decide +kernel
theorem d_R_frequent_35 : decode c_R_frequent 35 = .ok (.getfield 29, 3) := by decide +kernel
theorem d_R_frequent_38 : decode c_R_frequent 38 = .ok (.aload_n 0, 1) := by decide +kernel
theorem d_R_frequent_39 : decode c_R_frequent 39 = .ok (.getfield 26, 3) := by decide +kernel
theorem d_R_frequent_42 : decode c_R_frequent 42 = .ok (.iload 5, 2) := by decide +kernel
theorem d_R_frequent_44 : decode c_R_frequent 44 = .ok (.iaload, 1) := by decide +kernel
theorem d_R_frequent_45 : decode c_R_frequent 45 = .ok (.dup2, 1) := by decide +kernel
theorem d_R_frequent_46 : decode c_R_frequent 46 = .ok (.iaload, 1) := by decide +kernel
theorem d_R_frequent_47 : decode c_R_frequent 47 = .ok (.dup_x2, 1) := by decide +kernel
theorem d_R_frequent_48 : decode c_R_frequent 48 = .ok (.iconst 1, 1) := by decide +kernel
theorem d_R_frequent_49 : decode c_R_frequent 49 = .ok (.iadd, 1) := by decide +kernel
theorem d_R_frequent_50 : decode c_R_frequent 50 = .ok (.iastore, 1) := by decide +kernel
theorem d_R_frequent_51 : decode c_R_frequent 51 = .ok (.istore 6, 2) := by decide +kernel
theorem d_R_frequent_53 : decode c_R_frequent 53 = .ok (.iload 6, 2) := by decide +kernel
theorem d_R_frequent_55 : decode c_R_frequent 55 = .ok (.iload_n 3, 1) := by decide +kernel
theorem d_R_frequent_56 : decode c_R_frequent 56 = .ok (.if_icmp .ne 11, 3) := by decide +kernel
theorem d_R_frequent_59 : decode c_R_frequent 59 = .ok (.aload_n 0, 1) := by decide +kernel
theorem d_R_frequent_60 : decode c_R_frequent 60 = .ok (.getfield 23, 3) := by decide +kernel
theorem d_R_frequent_63 : decode c_R_frequent 63 = .ok (.iload 5, 2) := by decide +kernel
theorem d_R_frequent_65 : decode c_R_frequent 65 = .ok (.iaload, 1) := by decide +kernel
theorem d_R_frequent_66 : decode c_R_frequent 66 = .ok (.ireturn, 1) := by decide +kernel
theorem d_R_frequent_67 : decode c_R_frequent 67 = .ok (.iinc 5 1, 3) := by decide +kernel
theorem d_R_frequent_70 : decode c_R_frequent 70 = .ok (.goto (-43), 3) := by decide +kernel
theorem d_R_frequent_73 : decode c_R_frequent 73 = .ok (.iconst (-1), 1) := by decide +kernel
theorem d_R_frequent_74 : decode c_R_frequent 74 = .ok (.ireturn, 1) := by decide +kernel
theorem d_R_countAhead_0 : decode c_R_countAhead 0 = .ok (.aload_n 0, 1) := by decide +kernel
theorem d_R_countAhead_1 : decode c_R_countAhead 1 = .ok (.getfield 29, 3) := by decide +kernel
theorem d_R_countAhead_4 : decode c_R_countAhead 4 = .ok (.iconst 0, 1) := by decide +kernel
theorem d_R_countAhead_5 : decode c_R_countAhead 5 = .ok (.invokestatic 169, 3) := by decide +kernel
theorem d_R_countAhead_8 : decode c_R_countAhead 8 = .ok (.iconst 0, 1) := by decide +kernel
theorem d_R_countAhead_9 : decode c_R_countAhead 9 = .ok (.istore_n 2, 1) := by decide +kernel
theorem d_R_countAhead_10 : decode c_R_countAhead 10 = .ok (.iload_n 2, 1) := by decide +kernel
theorem d_R_countAhead_11 : decode c_R_countAhead 11 = .ok (.iload_n 1, 1) := by decide +kernel
theorem d_R_countAhead_12 : decode c_R_countAhead 12 = .ok (.if_icmp .ge 24, 3) := by decide +kernel
theorem d_R_countAhead_15 : decode c_R_countAhead 15 = .ok (.aload_n 0, 1) := by decide +kernel
theorem d_R_countAhead_16 : decode c_R_countAhead 16 = .ok (.getfield 29, 3) := by decide +kernel
theorem d_R_countAhead_19 : decode c_R_countAhead 19 = .ok (.aload_n 0, 1) := by decide +kernel
theorem d_R_countAhead_20 : decode c_R_countAhead 20 = .ok (.getfield 26, 3) := by decide +kernel
theorem d_R_countAhead_23 : decode c_R_countAhead 23 = .ok (.iload_n 2, 1) := by decide +kernel
theorem d_R_countAhead_24 : decode c_R_countAhead 24 = .ok (.iaload, 1) := by decide +kernel
theorem d_R_countAhead_25 : decode c_R_countAhead 25 = .ok (.dup2, 1) := by decide +kernel
theorem d_R_countAhead_26 : decode c_R_countAhead 26 = .ok (.iaload, 1) := by decide +kernel
theorem d_R_countAhead_27 : decode c_R_countAhead 27 = .ok (.iconst 1, 1) := by decide +kernel
theorem d_R_countAhead_28 : decode c_R_countAhead 28 = .ok (.iadd, 1) := by decide +kernel
theorem d_R_countAhead_29 : decode c_R_countAhead 29 = .ok (.iastore, 1) := by decide +kernel
theorem d_R_countAhead_30 : decode c_R_countAhead 30 = .ok (.iinc 2 1, 3) := by decide +kernel
theorem d_R_countAhead_33 : decode c_R_countAhead 33 = .ok (.goto (-23), 3) := by decide +kernel
theorem d_R_countAhead_36 : decode c_R_countAhead 36 = .ok (.iconst 0, 1) := by decide +kernel
theorem d_R_countAhead_37 : decode c_R_countAhead 37 = .ok (.istore_n 2, 1) := by decide +kernel
theorem d_R_countAhead_38 : decode c_R_countAhead 38 = .ok (.sipush 1000, 3) := by decide +kernel
theorem d_R_countAhead_41 : decode c_R_countAhead 41 = .ok (.istore_n 3, 1) := by decide +kernel
theorem d_R_countAhead_42 : decode c_R_countAhead 42 = .ok (.iload_n 3, 1) := by decide +kernel
theorem d_R_countAhead_43 : decode c_R_countAhead 43 = .ok (.ifCond .lt 29, 3) := by decide +kernel
theorem d_R_countAhead_46 : decode c_R_countAhead 46 = .ok (.aload_n 0, 1) := by decide +kernel
theorem d_R_countAhead_47 : decode c_R_countAhead 47 = .ok (.getfield 29, 3) := by decide +kernel
theorem d_R_countAhead_50 : decode c_R_countAhead 50 = .ok (.iload_n 3, 1) := by decide +kernel
theorem d_R_countAhead_51 : decode c_R_countAhead 51 = .ok (.iaload, 1) := by decide +kernel
theorem d_R_countAhead_52 : decode c_R_countAhead 52 = .ok (.istore 4, 2) := by decide +kernel
theorem d_R_countAhead_54 : decode c_R_countAhead 54 = .ok (.aload_n 0, 1) := by decide +kernel
theorem d_R_countAhead_55 : decode c_R_countAhead 55 = .ok (.getfield 29, 3) := by decide +kernel
theorem d_R_countAhead_58 : decode c_R_countAhead 58 = .ok (.iload_n 3, 1) := by decide +kernel
theorem d_R_countAhead_59 : decode c_R_countAhead 59 = .ok (.iload_n 2, 1) := by decide +kernel
theorem d_R_countAhead_60 : decode c_R_countAhead 60 = .ok (.iastore, 1) := by decide +kernel
theorem d_R_countAhead_61 : decode c_R_countAhead 61 = .ok (.iload_n 2, 1) := by decide +kernel
theorem d_R_countAhead_62 : decode c_R_countAhead 62 = .ok (.iload 4, 2) := by decide +kernel
theorem d_R_countAhead_64 : decode c_R_countAhead 64 = .ok (.iadd, 1) := by decide +kernel
theorem d_R_countAhead_65 : decode c_R_countAhead 65 = .ok (.istore_n 2, 1) := by decide +kernel
theorem d_R_countAhead_66 : decode c_R_countAhead 66 = .ok (.iinc 3 (-1), 3) := by decide +kernel
theorem d_R_countAhead_69 : decode c_R_countAhead 69 = .ok (.goto (-27), 3) := by decide +kernel
theorem d_R_countAhead_72 : decode c_R_countAhead 72 = .ok (.return_, 1) := by decide +kernel
theorem d_R_count_0 : decode c_R_count 0 = .ok (.iload_n 1, 1) := by decide +kernel
theorem d_R_count_1 : decode c_R_count 1 = .ok (.tableswitch 52 0 3 #[31, 36, 41, 47], 31) := by decide +kernel
theorem d_R_count_32 : decode c_R_count 32 = .ok (.aload_n 0, 1) := by decide +kernel
theorem d_R_count_33 : decode c_R_count 33 = .ok (.getfield 74, 3) := by decide +kernel
theorem d_R_count_36 : decode c_R_count 36 = .ok (.ireturn, 1) := by decide +kernel
theorem d_R_count_37 : decode c_R_count 37 = .ok (.aload_n 0, 1) := by decide +kernel
theorem d_R_count_38 : decode c_R_count 38 = .ok (.getfield 77, 3) := by decide +kernel
theorem d_R_count_41 : decode c_R_count 41 = .ok (.ireturn, 1) := by decide +kernel
theorem d_R_count_42 : decode c_R_count 42 = .ok (.aload_n 0, 1) := by decide +kernel
theorem d_R_count_43 : decode c_R_count 43 = .ok (.getfield 54, 3) := by decide +kernel
theorem d_R_count_46 : decode c_R_count 46 = .ok (.arraylength, 1) := by decide +kernel
theorem d_R_count_47 : decode c_R_count 47 = .ok (.ireturn, 1) := by decide +kernel
theorem d_R_count_48 : decode c_R_count 48 = .ok (.aload_n 0, 1) := by decide +kernel
theorem d_R_count_49 : decode c_R_count 49 = .ok (.getfield 42, 3) := by decide +kernel
theorem d_R_count_52 : decode c_R_count 52 = .ok (.ireturn, 1) := by decide +kernel
theorem d_R_count_53 : decode c_R_count 53 = .ok (.new 91, 3) := by decide +kernel
theorem d_R_count_56 : decode c_R_count 56 = .ok (.dup, 1) := by decide +kernel
theorem d_R_count_57 : decode c_R_count 57 = .ok (.ldc 134, 2) := by decide +kernel
theorem d_R_count_59 : decode c_R_count 59 = .ok (.invokespecial 95, 3) := by decide +kernel
theorem d_R_count_62 : decode c_R_count 62 = .ok (.athrow, 1) := by decide +kernel

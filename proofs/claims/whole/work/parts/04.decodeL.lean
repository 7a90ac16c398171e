theorem d_P_init_0 : decode c_P_init 0 = .ok (.aload_n 0, 1) := by decide +kernel
theorem d_P_init_1 : decode c_P_init 1 = .ok (.invokespecial 1, 3) := by decide +kernel
theorem d_P_init_4 : decode c_P_init 4 = .ok (.return_, 1) := by decide +kernel
theorem d_I_numberOfLeadingZeros_0 : decode c_I_numberOfLeadingZeros 0 = .ok (.iload_n 0, 1) := by decide +kernel
theorem d_I_numberOfLeadingZeros_1 : decode c_I_numberOfLeadingZeros 1 = .ok (.ifCond .gt 14, 3) := by decide +kernel
theorem d_I_numberOfLeadingZeros_4 : decode c_I_numberOfLeadingZeros 4 = .ok (.iload_n 0, 1) := by decide +kernel
theorem d_I_numberOfLeadingZeros_5 : decode c_I_numberOfLeadingZeros 5 = .ok (.ifCond .ne 8, 3) := by decide +kernel
theorem d_I_numberOfLeadingZeros_8 : decode c_I_numberOfLeadingZeros 8 = .ok (.bipush 32, 2) := by decide +kernel
theorem d_I_numberOfLeadingZeros_10 : decode c_I_numberOfLeadingZeros 10 = .ok (.goto 4, 3) := by decide +kernel
theorem d_I_numberOfLeadingZeros_13 : decode c_I_numberOfLeadingZeros 13 = .ok (.iconst 0, 1) := by decide +kernel
theorem d_I_numberOfLeadingZeros_14 : decode c_I_numberOfLeadingZeros 14 = .ok (.ireturn, 1) := by decide +kernel
theorem d_I_numberOfLeadingZeros_15 : decode c_I_numberOfLeadingZeros 15 = .ok (.bipush 31, 2) := by decide +kernel
theorem d_I_numberOfLeadingZeros_17 : decode c_I_numberOfLeadingZeros 17 = .ok (.istore_n 1, 1) := by decide +kernel
theorem d_I_numberOfLeadingZeros_18 : decode c_I_numberOfLeadingZeros 18 = .ok (.iload_n 0, 1) := by decide +kernel
theorem d_I_numberOfLeadingZeros_19 : decode c_I_numberOfLeadingZeros 19 = .ok (.ldc_w 264, 3) := by decide +kernel
theorem d_I_numberOfLeadingZeros_22 : decode c_I_numberOfLeadingZeros 22 = .ok (.if_icmp .lt 11, 3) := by decide +kernel
theorem d_I_numberOfLeadingZeros_25 : decode c_I_numberOfLeadingZeros 25 = .ok (.iinc 1 (-16), 3) := by decide +kernel
theorem d_I_numberOfLeadingZeros_28 : decode c_I_numberOfLeadingZeros 28 = .ok (.iload_n 0, 1) := by decide +kernel
theorem d_I_numberOfLeadingZeros_29 : decode c_I_numberOfLeadingZeros 29 = .ok (.bipush 16, 2) := by decide +kernel
theorem d_I_numberOfLeadingZeros_31 : decode c_I_numberOfLeadingZeros 31 = .ok (.iushr, 1) := by decide +kernel
theorem d_I_numberOfLeadingZeros_32 : decode c_I_numberOfLeadingZeros 32 = .ok (.istore_n 0, 1) := by decide +kernel
theorem d_I_numberOfLeadingZeros_33 : decode c_I_numberOfLeadingZeros 33 = .ok (.iload_n 0, 1) := by decide +kernel
theorem d_I_numberOfLeadingZeros_34 : decode c_I_numberOfLeadingZeros 34 = .ok (.sipush 256, 3) := by decide +kernel
theorem d_I_numberOfLeadingZeros_37 : decode c_I_numberOfLeadingZeros 37 = .ok (.if_icmp .lt 11, 3) := by decide +kernel
theorem d_I_numberOfLeadingZeros_40 : decode c_I_numberOfLeadingZeros 40 = .ok (.iinc 1 (-8), 3) := by decide +kernel
theorem d_I_numberOfLeadingZeros_43 : decode c_I_numberOfLeadingZeros 43 = .ok (.iload_n 0, 1) := by decide +kernel
theorem d_I_numberOfLeadingZeros_44 : decode c_I_numberOfLeadingZeros 44 = .ok (.bipush 8, 2) := by decide +kernel
theorem d_I_numberOfLeadingZeros_46 : decode c_I_numberOfLeadingZeros 46 = .ok (.iushr, 1) := by decide +kernel
theorem d_I_numberOfLeadingZeros_47 : decode c_I_numberOfLeadingZeros 47 = .ok (.istore_n 0, 1) := by decide +kernel
theorem d_I_numberOfLeadingZeros_48 : decode c_I_numberOfLeadingZeros 48 = .ok (.iload_n 0, 1) := by decide +kernel
theorem d_I_numberOfLeadingZeros_49 : decode c_I_numberOfLeadingZeros 49 = .ok (.bipush 16, 2) := by decide +kernel
theorem d_I_numberOfLeadingZeros_51 : decode c_I_numberOfLeadingZeros 51 = .ok (.if_icmp .lt 10, 3) := by decide +kernel
theorem d_I_numberOfLeadingZeros_54 : decode c_I_numberOfLeadingZeros 54 = .ok (.iinc 1 (-4), 3) := by decide +kernel
theorem d_I_numberOfLeadingZeros_57 : decode c_I_numberOfLeadingZeros 57 = .ok (.iload_n 0, 1) := by decide +kernel
theorem d_I_numberOfLeadingZeros_58 : decode c_I_numberOfLeadingZeros 58 = .ok (.iconst 4, 1) := by decide +kernel
theorem d_I_numberOfLeadingZeros_59 : decode c_I_numberOfLeadingZeros 59 = .ok (.iushr, 1) := by decide +kernel
theorem d_I_numberOfLeadingZeros_60 : decode c_I_numberOfLeadingZeros 60 = .ok (.istore_n 0, 1) := by decide +kernel
theorem d_I_numberOfLeadingZeros_61 : decode c_I_numberOfLeadingZeros 61 = .ok (.iload_n 0, 1) := by decide +kernel
theorem d_I_numberOfLeadingZeros_62 : decode c_I_numberOfLeadingZeros 62 = .ok (.iconst 4, 1) := by decide +kernel
theorem d_I_numberOfLeadingZeros_63 : decode c_I_numberOfLeadingZeros 63 = .ok (.if_icmp .lt 10, 3) := by decide +kernel
theorem d_I_numberOfLeadingZeros_66 : decode c_I_numberOfLeadingZeros 66 = .ok (.iinc 1 (-2), 3) := by decide +kernel
theorem d_I_numberOfLeadingZeros_69 : decode c_I_numberOfLeadingZeros 69 = .ok (.iload_n 0, 1) := by decide +kernel
theorem d_I_numberOfLeadingZeros_70 : decode c_I_numberOfLeadingZeros 70 = .ok (.iconst 2, 1) := by decide +kernel
theorem d_I_numberOfLeadingZeros_71 : decode c_I_numberOfLeadingZeros 71 = .ok (.iushr, 1) := by decide +kernel
theorem d_I_numberOfLeadingZeros_72 : decode c_I_numberOfLeadingZeros 72 = .ok (.istore_n 0, 1) := by decide +kernel
theorem d_I_numberOfLeadingZeros_73 : decode c_I_numberOfLeadingZeros 73 = .ok (.iload_n 1, 1) := by decide +kernel
theorem d_I_numberOfLeadingZeros_74 : decode c_I_numberOfLeadingZeros 74 = .ok (.iload_n 0, 1) := by decide +kernel
theorem d_I_numberOfLeadingZeros_75 : decode c_I_numberOfLeadingZeros 75 = .ok (.iconst 1, 1) := by decide +kernel
theorem d_I_numberOfLeadingZeros_76 : decode c_I_numberOfLeadingZeros 76 = .ok (.iushr, 1) := by decide +kernel
theorem d_I_numberOfLeadingZeros_77 : decode c_I_numberOfLeadingZeros 77 = .ok (.isub, 1) := by decide +kernel
theorem d_I_numberOfLeadingZeros_78 : decode c_I_numberOfLeadingZeros 78 = .ok (.ireturn, 1) := by decide +kernel
theorem d_L_init_0 : decode c_L_init 0 = .ok (.aload_n 0, 1) := by decide +kernel
theorem d_L_init_1 : decode c_L_init 1 = .ok (.invokespecial 3, 3) := by decide +kernel
theorem d_L_init_4 : decode c_L_init 4 = .ok (.aload_n 0, 1) := by decide +kernel
theorem d_L_init_5 : decode c_L_init 5 = .ok (.bipush 16, 2) := by decide +kernel
theorem d_L_init_7 : decode c_L_init 7 = .ok (.newarray .long, 2) := by decide +kernel
theorem d_L_init_9 : decode c_L_init 9 = .ok (.putfield 9, 3) := by decide +kernel
theorem d_L_init_12 : decode c_L_init 12 = .ok (.aload_n 0, 1) := by decide +kernel
theorem d_L_init_13 : decode c_L_init 13 = .ok (.bipush 16, 2) := by decide +kernel
theorem d_L_init_15 : decode c_L_init 15 = .ok (.newarray .short, 2) := by decide +kernel
theorem d_L_init_17 : decode c_L_init 17 = .ok (.putfield 15, 3) := by decide +kernel
theorem d_L_init_20 : decode c_L_init 20 = .ok (.return_, 1) := by decide +kernel
theorem d_L_bitAt_0 : decode c_L_bitAt 0 = .ok (.iload_n 1, 1) := by decide +kernel
theorem d_L_bitAt_1 : decode c_L_bitAt 1 = .ok (.ifCond .lt 10, 3) := by decide +kernel
theorem d_L_bitAt_4 : decode c_L_bitAt 4 = .ok (.iload_n 1, 1) := by decide +kernel
theorem d_L_bitAt_5 : decode c_L_bitAt 5 = .ok (.sipush 1000, 3) := by decide +kernel
theorem d_L_bitAt_8 : decode c_L_bitAt 8 = .ok (.if_icmp .lt 5, 3) := by decide +kernel
theorem d_L_bitAt_11 : decode c_L_bitAt 11 = .ok (.iconst 0, 1) := by decide +kernel
theorem d_L_bitAt_12 : decode c_L_bitAt 12 = .ok (.ireturn, 1) := by decide +kernel
theorem d_L_bitAt_13 : decode c_L_bitAt 13 = .ok (.aload_n 0, 1) := by decide +kernel
theorem d_L_bitAt_14 : decode c_L_bitAt 14 = .ok (.getfield 9, 3) := by decide +kernel
theorem d_L_bitAt_17 : decode c_L_bitAt 17 = .ok (.iload_n 1, 1) := by decide +kernel
theorem d_L_bitAt_18 : decode c_L_bitAt 18 = .ok (.bipush 6, 2) := by decide +kernel
theorem d_L_bitAt_20 : decode c_L_bitAt 20 = .ok (.ishr, 1) := by decide +kernel
theorem d_L_bitAt_21 : decode c_L_bitAt 21 = .ok (.laload, 1) := by decide +kernel
theorem d_L_bitAt_22 : decode c_L_bitAt 22 = .ok (.iload_n 1, 1) := by decide +kernel
theorem d_L_bitAt_23 : decode c_L_bitAt 23 = .ok (.bipush 64, 2) := by decide +kernel
theorem d_L_bitAt_25 : decode c_L_bitAt 25 = .ok (.irem, 1) := by decide +kernel
theorem d_L_bitAt_26 : decode c_L_bitAt 26 = .ok (.lushr, 1) := by decide +kernel
theorem d_L_bitAt_27 : decode c_L_bitAt 27 = .ok (.l2i, 1) := by decide +kernel
theorem d_L_bitAt_28 : decode c_L_bitAt 28 = .ok (.iconst 1, 1) := by decide +kernel
theorem d_L_bitAt_29 : decode c_L_bitAt 29 = .ok (.iand, 1) := by decide +kernel
theorem d_L_bitAt_30 : decode c_L_bitAt 30 = .ok (.ireturn, 1) := by decide +kernel
theorem d_L_placeBelow_0 : decode c_L_placeBelow 0 = .ok (.iload_n 1, 1) := by decide +kernel
theorem d_L_placeBelow_1 : decode c_L_placeBelow 1 = .ok (.ifCond .ne 11, 3) := by decide +kernel
theorem d_L_placeBelow_4 : decode c_L_placeBelow 4 = .ok (.aload_n 0, 1) := by decide +kernel
theorem d_L_placeBelow_5 : decode c_L_placeBelow 5 = .ok (.iload_n 2, 1) := by decide +kernel
theorem d_L_placeBelow_6 : decode c_L_placeBelow 6 = .ok (.invokevirtual 51, 3) := by decide +kernel
theorem d_L_placeBelow_9 : decode c_L_placeBelow 9 = .ok (.goto 13, 3) := by decide +kernel
theorem d_L_placeBelow_12 : decode c_L_placeBelow 12 = .ok (.aload_n 0, 1) := by decide +kernel
theorem d_L_placeBelow_13 : decode c_L_placeBelow 13 = .ok (.getfield 25, 3) := by decide +kernel
theorem d_L_placeBelow_16 : decode c_L_placeBelow 16 = .ok (.aload_n 0, 1) := by decide +kernel
theorem d_L_placeBelow_17 : decode c_L_placeBelow 17 = .ok (.iload_n 2, 1) := by decide +kernel
theorem d_L_placeBelow_18 : decode c_L_placeBelow 18 = .ok (.invokevirtual 35, 3) := by decide +kernel
theorem d_L_placeBelow_21 : decode c_L_placeBelow 21 = .ok (.iadd, 1) := by decide +kernel
theorem d_L_placeBelow_22 : decode c_L_placeBelow 22 = .ok (.ireturn, 1) := by decide +kernel
theorem d_L_zerosTo_0 : decode c_L_zerosTo 0 = .ok (.iload_n 1, 1) := by decide +kernel
theorem d_L_zerosTo_1 : decode c_L_zerosTo 1 = .ok (.aload_n 0, 1) := by decide +kernel
theorem d_L_zerosTo_2 : decode c_L_zerosTo 2 = .ok (.iload_n 1, 1) := by decide +kernel
theorem d_L_zerosTo_3 : decode c_L_zerosTo 3 = .ok (.invokevirtual 35, 3) := by decide +kernel
theorem d_L_zerosTo_6 : decode c_L_zerosTo 6 = .ok (.isub, 1) := by decide +kernel
theorem d_L_zerosTo_7 : decode c_L_zerosTo 7 = .ok (.ireturn, 1) := by decide +kernel
theorem d_L_onesTo_0 : decode c_L_onesTo 0 = .ok (.iload_n 1, 1) := by decide +kernel
theorem d_L_onesTo_1 : decode c_L_onesTo 1 = .ok (.ifCond .gt 5, 3) := by decide +kernel
theorem d_L_onesTo_4 : decode c_L_onesTo 4 = .ok (.iconst 0, 1) := by decide +kernel
theorem d_L_onesTo_5 : decode c_L_onesTo 5 = .ok (.ireturn, 1) := by decide +kernel
theorem d_L_onesTo_6 : decode c_L_onesTo 6 = .ok (.iload_n 1, 1) := by decide +kernel
theorem d_L_onesTo_7 : decode c_L_onesTo 7 = .ok (.sipush 1000, 3) := by decide +kernel
theorem d_L_onesTo_10 : decode c_L_onesTo 10 = .ok (.invokestatic 39, 3) := by decide +kernel
theorem d_L_onesTo_13 : decode c_L_onesTo 13 = .ok (.iconst 1, 1) := by decide +kernel
theorem d_L_onesTo_14 : decode c_L_onesTo 14 = .ok (.isub, 1) := by decide +kernel
theorem d_L_onesTo_15 : decode c_L_onesTo 15 = .ok (.istore_n 2, 1) := by decide +kernel
theorem d_L_onesTo_16 : decode c_L_onesTo 16 = .ok (.iload_n 2, 1) := by decide +kernel
theorem d_L_onesTo_17 : decode c_L_onesTo 17 = .ok (.bipush 6, 2) := by decide +kernel
theorem d_L_onesTo_19 : decode c_L_onesTo 19 = .ok (.ishr, 1) := by decide +kernel
theorem d_L_onesTo_20 : decode c_L_onesTo 20 = .ok (.istore_n 3, 1) := by decide +kernel
theorem d_L_onesTo_21 : decode c_L_onesTo 21 = .ok (.aload_n 0, 1) := by decide +kernel
theorem d_L_onesTo_22 : decode c_L_onesTo 22 = .ok (.getfield 9, 3) := by decide +kernel
theorem d_L_onesTo_25 : decode c_L_onesTo 25 = .ok (.iload_n 3, 1) := by decide +kernel
theorem d_L_onesTo_26 : decode c_L_onesTo 26 = .ok (.laload, 1) := by decide +kernel
theorem d_L_onesTo_27 : decode c_L_onesTo 27 = .ok (.bipush 63, 2) := by decide +kernel
theorem d_L_onesTo_29 : decode c_L_onesTo 29 = .ok (.iload_n 2, 1) := by decide +kernel
theorem d_L_onesTo_30 : decode c_L_onesTo 30 = .ok (.bipush 64, 2) := by decide +kernel
theorem d_L_onesTo_32 : decode c_L_onesTo 32 = .ok (.irem, 1) := by decide +kernel
theorem d_L_onesTo_33 : decode c_L_onesTo 33 = .ok (.isub, 1) := by decide +kernel
theorem d_L_onesTo_34 : decode c_L_onesTo 34 = .ok (.lshl, 1) := by decide +kernel
theorem d_L_onesTo_35 : decode c_L_onesTo 35 = .ok (.lstore 4, 2) := by decide +kernel
theorem d_L_onesTo_37 : decode c_L_onesTo 37 = .ok (.aload_n 0, 1) := by decide +kernel
theorem d_L_onesTo_38 : decode c_L_onesTo 38 = .ok (.getfield 15, 3) := by decide +kernel
theorem d_L_onesTo_41 : decode c_L_onesTo 41 = .ok (.iload_n 3, 1) := by decide +kernel
theorem d_L_onesTo_42 : decode c_L_onesTo 42 = .ok (.saload, 1) := by decide +kernel
theorem d_L_onesTo_43 : decode c_L_onesTo 43 = .ok (.lload 4, 2) := by decide +kernel
theorem d_L_onesTo_45 : decode c_L_onesTo 45 = .ok (.invokestatic 45, 3) := by decide +kernel
theorem d_L_onesTo_48 : decode c_L_onesTo 48 = .ok (.iadd, 1) := by decide +kernel
theorem d_L_onesTo_49 : decode c_L_onesTo 49 = .ok (.ireturn, 1) := by decide +kernel
theorem d_J_bitCount_0 : decode c_J_bitCount 0 = .ok (.lload_n 0, 1) := by decide +kernel
theorem d_J_bitCount_1 : decode c_J_bitCount 1 = .ok (.lload_n 0, 1) := by decide +kernel
theorem d_J_bitCount_2 : decode c_J_bitCount 2 = .ok (.iconst 1, 1) := by decide +kernel
theorem d_J_bitCount_3 : decode c_J_bitCount 3 = .ok (.lushr, 1) := by decide +kernel
theorem d_J_bitCount_4 : decode c_J_bitCount 4 = .ok (.ldc2_w 314, 3) := by decide +kernel
theorem d_J_bitCount_7 : decode c_J_bitCount 7 = .ok (.land, 1) := by decide +kernel
theorem d_J_bitCount_8 : decode c_J_bitCount 8 = .ok (.lsub, 1) := by decide +kernel
theorem d_J_bitCount_9 : decode c_J_bitCount 9 = .ok (.lstore_n 0, 1) := by decide +kernel
theorem d_J_bitCount_10 : decode c_J_bitCount 10 = .ok (.lload_n 0, 1) := by decide +kernel
theorem d_J_bitCount_11 : decode c_J_bitCount 11 = .ok (.ldc2_w 316, 3) := by decide +kernel
theorem d_J_bitCount_14 : decode c_J_bitCount 14 = .ok (.land, 1) := by decide +kernel
theorem d_J_bitCount_15 : decode c_J_bitCount 15 = .ok (.lload_n 0, 1) := by decide +kernel
theorem d_J_bitCount_16 : decode c_J_bitCount 16 = .ok (.iconst 2, 1) := by decide +kernel
theorem d_J_bitCount_17 : decode c_J_bitCount 17 = .ok (.lushr, 1) := by decide +kernel
theorem d_J_bitCount_18 : decode c_J_bitCount 18 = .ok (.ldc2_w 316, 3) := by decide +kernel
theorem d_J_bitCount_21 : decode c_J_bitCount 21 = .ok (.land, 1) := by decide +kernel
theorem d_J_bitCount_22 : decode c_J_bitCount 22 = .ok (.ladd, 1) := by decide +kernel
theorem d_J_bitCount_23 : decode c_J_bitCount 23 = .ok (.lstore_n 0, 1) := by decide +kernel
theorem d_J_bitCount_24 : decode c_J_bitCount 24 = .ok (.lload_n 0, 1) := by decide +kernel
theorem d_J_bitCount_25 : decode c_J_bitCount 25 = .ok (.lload_n 0, 1) := by decide +kernel
theorem d_J_bitCount_26 : decode c_J_bitCount 26 = .ok (.iconst 4, 1) := by decide +kernel
theorem d_J_bitCount_27 : decode c_J_bitCount 27 = .ok (.lushr, 1) := by decide +kernel
theorem d_J_bitCount_28 : decode c_J_bitCount 28 = .ok (.ladd, 1) := by decide +kernel
theorem d_J_bitCount_29 : decode c_J_bitCount 29 = .ok (.ldc2_w 318, 3) := by decide +kernel
theorem d_J_bitCount_32 : decode c_J_bitCount 32 = .ok (.land, 1) := by decide +kernel
theorem d_J_bitCount_33 : decode c_J_bitCount 33 = .ok (.lstore_n 0, 1) := by decide +kernel
theorem d_J_bitCount_34 : decode c_J_bitCount 34 = .ok (.lload_n 0, 1) := by decide +kernel
theorem d_J_bitCount_35 : decode c_J_bitCount 35 = .ok (.lload_n 0, 1) := by decide +kernel
theorem d_J_bitCount_36 : decode c_J_bitCount 36 = .ok (.bipush 8, 2) := by decide +kernel
theorem d_J_bitCount_38 : decode c_J_bitCount 38 = .ok (.lushr, 1) := by decide +kernel
theorem d_J_bitCount_39 : decode c_J_bitCount 39 = .ok (.ladd, 1) := by decide +kernel
theorem d_J_bitCount_40 : decode c_J_bitCount 40 = .ok (.lstore_n 0, 1) := by decide +kernel
theorem d_J_bitCount_41 : decode c_J_bitCount 41 = .ok (.lload_n 0, 1) := by decide +kernel
theorem d_J_bitCount_42 : decode c_J_bitCount 42 = .ok (.lload_n 0, 1) := by decide +kernel
theorem d_J_bitCount_43 : decode c_J_bitCount 43 = .ok (.bipush 16, 2) := by decide +kernel
theorem d_J_bitCount_45 : decode c_J_bitCount 45 = .ok (.lushr, 1) := by decide +kernel
theorem d_J_bitCount_46 : decode c_J_bitCount 46 = .ok (.ladd, 1) := by decide +kernel
theorem d_J_bitCount_47 : decode c_J_bitCount 47 = .ok (.lstore_n 0, 1) := by decide +kernel
theorem d_J_bitCount_48 : decode c_J_bitCount 48 = .ok (.lload_n 0, 1) := by decide +kernel
theorem d_J_bitCount_49 : decode c_J_bitCount 49 = .ok (.lload_n 0, 1) := by decide +kernel
theorem d_J_bitCount_50 : decode c_J_bitCount 50 = .ok (.bipush 32, 2) := by decide +kernel
theorem d_J_bitCount_52 : decode c_J_bitCount 52 = .ok (.lushr, 1) := by decide +kernel
theorem d_J_bitCount_53 : decode c_J_bitCount 53 = .ok (.ladd, 1) := by decide +kernel
theorem d_J_bitCount_54 : decode c_J_bitCount 54 = .ok (.lstore_n 0, 1) := by decide +kernel
theorem d_J_bitCount_55 : decode c_J_bitCount 55 = .ok (.lload_n 0, 1) := by decide +kernel
theorem d_J_bitCount_56 : decode c_J_bitCount 56 = .ok (.l2i, 1) := by decide +kernel
theorem d_J_bitCount_57 : decode c_J_bitCount 57 = .ok (.bipush 127, 2) := by decide +kernel
theorem d_J_bitCount_59 : decode c_J_bitCount 59 = .ok (.iand, 1) := by decide +kernel
theorem d_J_bitCount_60 : decode c_J_bitCount 60 = .ok (.ireturn, 1) := by decide +kernel
theorem d_L_store_0 : decode c_L_store 0 = .ok (.aload_n 0, 1) := by decide +kernel
theorem d_L_store_1 : decode c_L_store 1 = .ok (.getfield 9, 3) := by decide +kernel
theorem d_L_store_4 : decode c_L_store 4 = .ok (.lconst 0, 1) := by decide +kernel
theorem d_L_store_5 : decode c_L_store 5 = .ok (.invokestatic 19, 3) := by decide +kernel
theorem d_L_store_8 : decode c_L_store 8 = .ok (.aload_n 0, 1) := by decide +kernel
theorem d_L_store_9 : decode c_L_store 9 = .ok (.iconst 0, 1) := by decide +kernel
theorem d_L_store_10 : decode c_L_store 10 = .ok (.putfield 25, 3) := by decide +kernel
theorem d_L_store_13 : decode c_L_store 13 = .ok (.iconst 0, 1) := by decide +kernel
theorem d_L_store_14 : decode c_L_store 14 = .ok (.istore 5, 2) := by decide +kernel
theorem d_L_store_16 : decode c_L_store 16 = .ok (.iconst 0, 1) := by decide +kernel
theorem d_L_store_17 : decode c_L_store 17 = .ok (.istore 6, 2) := by decide +kernel
theorem d_L_store_19 : decode c_L_store 19 = .ok (.iload 6, 2) := by decide +kernel
theorem d_L_store_21 : decode c_L_store 21 = .ok (.iload_n 2, 1) := by decide +kernel
theorem d_L_store_22 : decode c_L_store 22 = .ok (.if_icmp .ge 97, 3) := by decide +kernel
theorem d_L_store_25 : decode c_L_store 25 = .ok (.iload 6, 2) := by decide +kernel
theorem d_L_store_27 : decode c_L_store 27 = .ok (.bipush 6, 2) := by decide +kernel
theorem d_L_store_29 : decode c_L_store 29 = .ok (.ishr, 1) := by decide +kernel
theorem d_L_store_30 : decode c_L_store 30 = .ok (.istore 7, 2) := by decide +kernel
theorem d_L_store_32 : decode c_L_store 32 = .ok (.iload 6, 2) := by decide +kernel
theorem d_L_store_34 : decode c_L_store 34 = .ok (.bipush 64, 2) := by decide +kernel
theorem d_L_store_36 : decode c_L_store 36 = .ok (.irem, 1) := by decide +kernel
theorem d_L_store_37 : decode c_L_store 37 = .ok (.ifCond .ne 13, 3) := by decide +kernel
theorem d_L_store_40 : decode c_L_store 40 = .ok (.aload_n 0, 1) := by decide +kernel
theorem d_L_store_41 : decode c_L_store 41 = .ok (.getfield 15, 3) := by decide +kernel
theorem d_L_store_44 : decode c_L_store 44 = .ok (.iload 7, 2) := by decide +kernel
theorem d_L_store_46 : decode c_L_store 46 = .ok (.iload 5, 2) := by decide +kernel
theorem d_L_store_48 : decode c_L_store 48 = .ok (.i2s, 1) := by decide +kernel
theorem d_L_store_49 : decode c_L_store 49 = .ok (.sastore, 1) := by decide +kernel
theorem d_L_store_50 : decode c_L_store 50 = .ok (.aload_n 1, 1) := by decide +kernel
theorem d_L_store_51 : decode c_L_store 51 = .ok (.iload 6, 2) := by decide +kernel
theorem d_L_store_53 : decode c_L_store 53 = .ok (.iaload, 1) := by decide +kernel
theorem d_L_store_54 : decode c_L_store 54 = .ok (.istore 8, 2) := by decide +kernel
theorem d_L_store_56 : decode c_L_store 56 = .ok (.iload 8, 2) := by decide +kernel
theorem d_L_store_58 : decode c_L_store 58 = .ok (.iload_n 3, 1) := by decide +kernel
theorem d_L_store_59 : decode c_L_store 59 = .ok (.ishr, 1) := by decide +kernel
theorem d_L_store_60 : decode c_L_store 60 = .ok (.iconst 1, 1) := by decide +kernel
theorem d_L_store_61 : decode c_L_store 61 = .ok (.iand, 1) := by decide +kernel
theorem d_L_store_62 : decode c_L_store 62 = .ok (.ifCond .ne 24, 3) := by decide +kernel
theorem d_L_store_65 : decode c_L_store 65 = .ok (.aload_n 1, 1) := by decide +kernel
theorem d_L_store_66 : decode c_L_store 66 = .ok (.aload_n 0, 1) := by decide +kernel
theorem d_L_store_67 : decode c_L_store 67 = .ok (.getfield 25, 3) := by decide +kernel
theorem d_L_store_70 : decode c_L_store 70 = .ok (.iload 8, 2) := by decide +kernel
theorem d_L_store_72 : decode c_L_store 72 = .ok (.iastore, 1) := by decide +kernel
theorem d_L_store_73 : decode c_L_store 73 = .ok (.aload_n 0, 1) := by decide +kernel
theorem d_L_store_74 : decode c_L_store 74 = .ok (.dup, 1) := by decide +kernel
theorem d_L_store_75 : decode c_L_store 75 = .ok (.getfield 25, 3) := by decide +kernel
theorem d_L_store_78 : decode c_L_store 78 = .ok (.iconst 1, 1) := by decide +kernel
theorem d_L_store_79 : decode c_L_store 79 = .ok (.iadd, 1) := by decide +kernel
theorem d_L_store_80 : decode c_L_store 80 = .ok (.putfield 25, 3) := by decide +kernel
theorem d_L_store_83 : decode c_L_store 83 = .ok (.goto 30, 3) := by decide +kernel
theorem d_L_store_86 : decode c_L_store 86 = .ok (.aload_n 0, 1) := by decide +kernel
theorem d_L_store_87 : decode c_L_store 87 = .ok (.getfield 9, 3) := by decide +kernel
theorem d_L_store_90 : decode c_L_store 90 = .ok (.iload 7, 2) := by decide +kernel
theorem d_L_store_92 : decode c_L_store 92 = .ok (.dup2, 1) := by decide +kernel
theorem d_L_store_93 : decode c_L_store 93 = .ok (.laload, 1) := by decide +kernel
theorem d_L_store_94 : decode c_L_store 94 = .ok (.lconst 1, 1) := by decide +kernel
theorem d_L_store_95 : decode c_L_store 95 = .ok (.iload 6, 2) := by decide +kernel
theorem d_L_store_97 : decode c_L_store 97 = .ok (.bipush 64, 2) := by decide +kernel
theorem d_L_store_99 : decode c_L_store 99 = .ok (.irem, 1) := by decide +kernel
theorem d_L_store_100 : decode c_L_store 100 = .ok (.lshl, 1) := by decide +kernel
theorem d_L_store_101 : decode c_L_store 101 = .ok (.lor, 1) := by decide +kernel
theorem d_L_store_102 : decode c_L_store 102 = .ok (.lastore, 1) := by decide +kernel
theorem d_L_store_103 : decode c_L_store 103 = .ok (.aload 4, 2) := by decide +kernel
theorem d_L_store_105 : decode c_L_store 105 = .ok (.iload 5, 2) := by decide +kernel
theorem d_L_store_107 : decode c_L_store 107 = .ok (.iload 8, 2) := by decide +kernel
theorem d_L_store_109 : decode c_L_store 109 = .ok (.iastore, 1) := by decide +kernel
theorem d_L_store_110 : decode c_L_store 110 = .ok (.iinc 5 1, 3) := by decide +kernel
theorem d_L_store_113 : decode c_L_store 113 = .ok (.iinc 6 1, 3) := by decide +kernel
theorem d_L_store_116 : decode c_L_store 116 = .ok (.goto (-97), 3) := by decide +kernel
theorem d_L_store_119 : decode c_L_store 119 = .ok (.aload 4, 2) := by decide +kernel
theorem d_L_store_121 : decode c_L_store 121 = .ok (.iconst 0, 1) := by decide +kernel
theorem d_L_store_122 : decode c_L_store 122 = .ok (.aload_n 1, 1) := by decide +kernel
theorem d_L_store_123 : decode c_L_store 123 = .ok (.aload_n 0, 1) := by decide +kernel
theorem d_L_store_124 : decode c_L_store 124 = .ok (.getfield 25, 3) := by decide +kernel
theorem d_L_store_127 : decode c_L_store 127 = .ok (.iload 5, 2) := by decide +kernel
theorem d_L_store_129 : decode c_L_store 129 = .ok (.invokestatic 29, 3) := by decide +kernel
theorem d_L_store_132 : decode c_L_store 132 = .ok (.return_, 1) := by decide +kernel
theorem d_A_fillJ_0 : decode c_A_fillJ 0 = .ok (.iconst 0, 1) := by decide +kernel
theorem d_A_fillJ_1 : decode c_A_fillJ 1 = .ok (.istore_n 3, 1) := by decide +kernel
theorem d_A_fillJ_2 : decode c_A_fillJ 2 = .ok (.aload_n 0, 1) := by decide +kernel
theorem d_A_fillJ_3 : decode c_A_fillJ 3 = .ok (.arraylength, 1) := by decide +kernel
theorem d_A_fillJ_4 : decode c_A_fillJ 4 = .ok (.istore 4, 2) := by decide +kernel
theorem d_A_fillJ_6 : decode c_A_fillJ 6 = .ok (.iload_n 3, 1) := by decide +kernel
theorem d_A_fillJ_7 : decode c_A_fillJ 7 = .ok (.iload 4, 2) := by decide +kernel
theorem d_A_fillJ_9 : decode c_A_fillJ 9 = .ok (.if_icmp .ge 13, 3) := by decide +kernel
theorem d_A_fillJ_12 : decode c_A_fillJ 12 = .ok (.aload_n 0, 1) := by decide +kernel
theorem d_A_fillJ_13 : decode c_A_fillJ 13 = .ok (.iload_n 3, 1) := by decide +kernel
theorem d_A_fillJ_14 : decode c_A_fillJ 14 = .ok (.lload_n 1, 1) := by decide +kernel
theorem d_A_fillJ_15 : decode c_A_fillJ 15 = .ok (.lastore, 1) := by decide +kernel
theorem d_A_fillJ_16 : decode c_A_fillJ 16 = .ok (.iinc 3 1, 3) := by decide +kernel
theorem d_A_fillJ_19 : decode c_A_fillJ 19 = .ok (.goto (-13), 3) := by decide +kernel
theorem d_A_fillJ_22 : decode c_A_fillJ 22 = .ok (.return_, 1) := by decide +kernel
theorem d_P_span_0 : decode c_P_span 0 = .ok (.aload_n 0, 1) := by decide +kernel
theorem d_P_span_1 : decode c_P_span 1 = .ok (.iload_n 1, 1) := by decide +kernel
theorem d_P_span_2 : decode c_P_span 2 = .ok (.putfield 7, 3) := by decide +kernel
theorem d_P_span_5 : decode c_P_span 5 = .ok (.aload_n 0, 1) := by decide +kernel
theorem d_P_span_6 : decode c_P_span 6 = .ok (.iload_n 2, 1) := by decide +kernel
theorem d_P_span_7 : decode c_P_span 7 = .ok (.putfield 13, 3) := by decide +kernel
theorem d_P_span_10 : decode c_P_span 10 = .ok (.return_, 1) := by decide +kernel
theorem d_P_split_0 : decode c_P_split 0 = .ok (.aload_n 0, 1) := by decide +kernel
theorem d_P_split_1 : decode c_P_split 1 = .ok (.aload_n 1, 1) := by decide +kernel
theorem d_P_split_2 : decode c_P_split 2 = .ok (.aload_n 0, 1) := by decide +kernel
theorem d_P_split_3 : decode c_P_split 3 = .ok (.getfield 7, 3) := by decide +kernel
theorem d_P_split_6 : decode c_P_split 6 = .ok (.invokevirtual 16, 3) := by decide +kernel
theorem d_P_split_9 : decode c_P_split 9 = .ok (.putfield 22, 3) := by decide +kernel
theorem d_P_split_12 : decode c_P_split 12 = .ok (.aload_n 0, 1) := by decide +kernel
theorem d_P_split_13 : decode c_P_split 13 = .ok (.aload_n 1, 1) := by decide +kernel
theorem d_P_split_14 : decode c_P_split 14 = .ok (.aload_n 0, 1) := by decide +kernel
theorem d_P_split_15 : decode c_P_split 15 = .ok (.getfield 13, 3) := by decide +kernel
theorem d_P_split_18 : decode c_P_split 18 = .ok (.invokevirtual 16, 3) := by decide +kernel
theorem d_P_split_21 : decode c_P_split 21 = .ok (.putfield 25, 3) := by decide +kernel
theorem d_P_split_24 : decode c_P_split 24 = .ok (.aload_n 0, 1) := by decide +kernel
theorem d_P_split_25 : decode c_P_split 25 = .ok (.aload_n 1, 1) := by decide +kernel
theorem d_P_split_26 : decode c_P_split 26 = .ok (.getfield 27, 3) := by decide +kernel
theorem d_P_split_29 : decode c_P_split 29 = .ok (.aload_n 0, 1) := by decide +kernel
theorem d_P_split_30 : decode c_P_split 30 = .ok (.getfield 7, 3) := by decide +kernel
theorem d_P_split_33 : decode c_P_split 33 = .ok (.iadd, 1) := by decide +kernel
theorem d_P_split_34 : decode c_P_split 34 = .ok (.aload_n 0, 1) := by decide +kernel
theorem d_P_split_35 : decode c_P_split 35 = .ok (.getfield 22, 3) := by decide +kernel
theorem d_P_split_38 : decode c_P_split 38 = .ok (.isub, 1) := by decide +kernel
theorem d_P_split_39 : decode c_P_split 39 = .ok (.putfield 30, 3) := by decide +kernel
theorem d_P_split_42 : decode c_P_split 42 = .ok (.aload_n 0, 1) := by decide +kernel
theorem d_P_split_43 : decode c_P_split 43 = .ok (.aload_n 1, 1) := by decide +kernel
theorem d_P_split_44 : decode c_P_split 44 = .ok (.getfield 27, 3) := by decide +kernel
theorem d_P_split_47 : decode c_P_split 47 = .ok (.aload_n 0, 1) := by decide +kernel
theorem d_P_split_48 : decode c_P_split 48 = .ok (.getfield 13, 3) := by decide +kernel
theorem d_P_split_51 : decode c_P_split 51 = .ok (.iadd, 1) := by decide +kernel
theorem d_P_split_52 : decode c_P_split 52 = .ok (.aload_n 0, 1) := by decide +kernel
theorem d_P_split_53 : decode c_P_split 53 = .ok (.getfield 25, 3) := by decide +kernel
theorem d_P_split_56 : decode c_P_split 56 = .ok (.isub, 1) := by decide +kernel
theorem d_P_split_57 : decode c_P_split 57 = .ok (.putfield 33, 3) := by decide +kernel
theorem d_P_split_60 : decode c_P_split 60 = .ok (.return_, 1) := by decide +kernel
theorem d_P_enter_0 : decode c_P_enter 0 = .ok (.aload_n 0, 1) := by decide +kernel
theorem d_P_enter_1 : decode c_P_enter 1 = .ok (.iload_n 1, 1) := by decide +kernel
theorem d_P_enter_2 : decode c_P_enter 2 = .ok (.ifCond .ne 10, 3) := by decide +kernel
theorem d_P_enter_5 : decode c_P_enter 5 = .ok (.aload_n 0, 1) := by decide +kernel
theorem d_P_enter_6 : decode c_P_enter 6 = .ok (.getfield 22, 3) := by decide +kernel
theorem d_P_enter_9 : decode c_P_enter 9 = .ok (.goto 7, 3) := by decide +kernel
theorem d_P_enter_12 : decode c_P_enter 12 = .ok (.aload_n 0, 1) := by decide +kernel
theorem d_P_enter_13 : decode c_P_enter 13 = .ok (.getfield 30, 3) := by decide +kernel
theorem d_P_enter_16 : decode c_P_enter 16 = .ok (.putfield 7, 3) := by decide +kernel
theorem d_P_enter_19 : decode c_P_enter 19 = .ok (.aload_n 0, 1) := by decide +kernel
theorem d_P_enter_20 : decode c_P_enter 20 = .ok (.iload_n 1, 1) := by decide +kernel
theorem d_P_enter_21 : decode c_P_enter 21 = .ok (.ifCond .ne 10, 3) := by decide +kernel
theorem d_P_enter_24 : decode c_P_enter 24 = .ok (.aload_n 0, 1) := by decide +kernel
theorem d_P_enter_25 : decode c_P_enter 25 = .ok (.getfield 25, 3) := by decide +kernel
theorem d_P_enter_28 : decode c_P_enter 28 = .ok (.goto 7, 3) := by decide +kernel
theorem d_P_enter_31 : decode c_P_enter 31 = .ok (.aload_n 0, 1) := by decide +kernel
theorem d_P_enter_32 : decode c_P_enter 32 = .ok (.getfield 33, 3) := by decide +kernel
theorem d_P_enter_35 : decode c_P_enter 35 = .ok (.putfield 13, 3) := by decide +kernel
theorem d_P_enter_38 : decode c_P_enter 38 = .ok (.return_, 1) := by decide +kernel
theorem d_P_length_0 : decode c_P_length 0 = .ok (.aload_n 0, 1) := by decide +kernel
theorem d_P_length_1 : decode c_P_length 1 = .ok (.getfield 13, 3) := by decide +kernel
theorem d_P_length_4 : decode c_P_length 4 = .ok (.aload_n 0, 1) := by decide +kernel
theorem d_P_length_5 : decode c_P_length 5 = .ok (.getfield 7, 3) := by decide +kernel
theorem d_P_length_8 : decode c_P_length 8 = .ok (.isub, 1) := by decide +kernel
theorem d_P_length_9 : decode c_P_length 9 = .ok (.ireturn, 1) := by decide +kernel
theorem d_L_placeAbove_0 : decode c_L_placeAbove 0 = .ok (.iload_n 1, 1) := by decide +kernel
theorem d_L_placeAbove_1 : decode c_L_placeAbove 1 = .ok (.aload_n 0, 1) := by decide +kernel
theorem d_L_placeAbove_2 : decode c_L_placeAbove 2 = .ok (.getfield 25, 3) := by decide +kernel
theorem d_L_placeAbove_5 : decode c_L_placeAbove 5 = .ok (.if_icmp .lt 7, 3) := by decide +kernel
theorem d_L_placeAbove_8 : decode c_L_placeAbove 8 = .ok (.iconst 1, 1) := by decide +kernel
theorem d_L_placeAbove_9 : decode c_L_placeAbove 9 = .ok (.goto 4, 3) := by decide +kernel
theorem d_L_placeAbove_12 : decode c_L_placeAbove 12 = .ok (.iconst 0, 1) := by decide +kernel
theorem d_L_placeAbove_13 : decode c_L_placeAbove 13 = .ok (.istore_n 3, 1) := by decide +kernel
theorem d_L_placeAbove_14 : decode c_L_placeAbove 14 = .ok (.iload_n 3, 1) := by decide +kernel
theorem d_L_placeAbove_15 : decode c_L_placeAbove 15 = .ok (.ifCond .eq 12, 3) := by decide +kernel
theorem d_L_placeAbove_18 : decode c_L_placeAbove 18 = .ok (.iload_n 1, 1) := by decide +kernel
theorem d_L_placeAbove_19 : decode c_L_placeAbove 19 = .ok (.aload_n 0, 1) := by decide +kernel
theorem d_L_placeAbove_20 : decode c_L_placeAbove 20 = .ok (.getfield 25, 3) := by decide +kernel
theorem d_L_placeAbove_23 : decode c_L_placeAbove 23 = .ok (.isub, 1) := by decide +kernel
theorem d_L_placeAbove_24 : decode c_L_placeAbove 24 = .ok (.goto 4, 3) := by decide +kernel
theorem d_L_placeAbove_27 : decode c_L_placeAbove 27 = .ok (.iload_n 1, 1) := by decide +kernel
theorem d_L_placeAbove_28 : decode c_L_placeAbove 28 = .ok (.istore 4, 2) := by decide +kernel
theorem d_L_placeAbove_30 : decode c_L_placeAbove 30 = .ok (.iconst 0, 1) := by decide +kernel
theorem d_L_placeAbove_31 : decode c_L_placeAbove 31 = .ok (.istore 5, 2) := by decide +kernel
theorem d_L_placeAbove_33 : decode c_L_placeAbove 33 = .ok (.sipush 1000, 3) := by decide +kernel
theorem d_L_placeAbove_36 : decode c_L_placeAbove 36 = .ok (.invokestatic 54, 3) := by decide +kernel
theorem d_L_placeAbove_39 : decode c_L_placeAbove 39 = .ok (.istore 6, 2) := by decide +kernel
theorem d_L_placeAbove_41 : decode c_L_placeAbove 41 = .ok (.iload 6, 2) := by decide +kernel
theorem d_L_placeAbove_43 : decode c_L_placeAbove 43 = .ok (.ifCond .le 53, 3) := by decide +kernel
theorem d_L_placeAbove_46 : decode c_L_placeAbove 46 = .ok (.iload 5, 2) := by decide +kernel
theorem d_L_placeAbove_48 : decode c_L_placeAbove 48 = .ok (.iload 6, 2) := by decide +kernel
theorem d_L_placeAbove_50 : decode c_L_placeAbove 50 = .ok (.iadd, 1) := by decide +kernel
theorem d_L_placeAbove_51 : decode c_L_placeAbove 51 = .ok (.istore 7, 2) := by decide +kernel
theorem d_L_placeAbove_53 : decode c_L_placeAbove 53 = .ok (.iload 7, 2) := by decide +kernel
theorem d_L_placeAbove_55 : decode c_L_placeAbove 55 = .ok (.iload_n 2, 1) := by decide +kernel
theorem d_L_placeAbove_56 : decode c_L_placeAbove 56 = .ok (.if_icmp .gt 31, 3) := by decide +kernel
theorem d_L_placeAbove_59 : decode c_L_placeAbove 59 = .ok (.iload_n 3, 1) := by decide +kernel
theorem d_L_placeAbove_60 : decode c_L_placeAbove 60 = .ok (.ifCond .eq 12, 3) := by decide +kernel
theorem d_L_placeAbove_63 : decode c_L_placeAbove 63 = .ok (.aload_n 0, 1) := by decide +kernel
theorem d_L_placeAbove_64 : decode c_L_placeAbove 64 = .ok (.iload 7, 2) := by decide +kernel
theorem d_L_placeAbove_66 : decode c_L_placeAbove 66 = .ok (.invokevirtual 35, 3) := by decide +kernel
theorem d_L_placeAbove_69 : decode c_L_placeAbove 69 = .ok (.goto 9, 3) := by decide +kernel
theorem d_L_placeAbove_72 : decode c_L_placeAbove 72 = .ok (.aload_n 0, 1) := by decide +kernel
theorem d_L_placeAbove_73 : decode c_L_placeAbove 73 = .ok (.iload 7, 2) := by decide +kernel
theorem d_L_placeAbove_75 : decode c_L_placeAbove 75 = .ok (.invokevirtual 51, 3) := by decide +kernel
theorem d_L_placeAbove_78 : decode c_L_placeAbove 78 = .ok (.iload 4, 2) := by decide +kernel
theorem d_L_placeAbove_80 : decode c_L_placeAbove 80 = .ok (.if_icmp .gt 7, 3) := by decide +kernel
theorem d_L_placeAbove_83 : decode c_L_placeAbove 83 = .ok (.iload 7, 2) := by decide +kernel
theorem d_L_placeAbove_85 : decode c_L_placeAbove 85 = .ok (.istore 5, 2) := by decide +kernel
theorem d_L_placeAbove_87 : decode c_L_placeAbove 87 = .ok (.iload 6, 2) := by decide +kernel
theorem d_L_placeAbove_89 : decode c_L_placeAbove 89 = .ok (.iconst 2, 1) := by decide +kernel
theorem d_L_placeAbove_90 : decode c_L_placeAbove 90 = .ok (.idiv, 1) := by decide +kernel
theorem d_L_placeAbove_91 : decode c_L_placeAbove 91 = .ok (.istore 6, 2) := by decide +kernel
theorem d_L_placeAbove_93 : decode c_L_placeAbove 93 = .ok (.goto (-52), 3) := by decide +kernel
theorem d_L_placeAbove_96 : decode c_L_placeAbove 96 = .ok (.iload 5, 2) := by decide +kernel
theorem d_L_placeAbove_98 : decode c_L_placeAbove 98 = .ok (.ireturn, 1) := by decide +kernel
theorem d_I_highestOneBit_0 : decode c_I_highestOneBit 0 = .ok (.iload_n 0, 1) := by decide +kernel
theorem d_I_highestOneBit_1 : decode c_I_highestOneBit 1 = .ok (.ldc 127, 2) := by decide +kernel
theorem d_I_highestOneBit_3 : decode c_I_highestOneBit 3 = .ok (.iload_n 0, 1) := by decide +kernel
theorem d_I_highestOneBit_4 : decode c_I_highestOneBit 4 = .ok (.invokestatic 51, 3) := by decide +kernel
theorem d_I_highestOneBit_7 : decode c_I_highestOneBit 7 = .ok (.iushr, 1) := by decide +kernel
theorem d_I_highestOneBit_8 : decode c_I_highestOneBit 8 = .ok (.iand, 1) := by decide +kernel
theorem d_I_highestOneBit_9 : decode c_I_highestOneBit 9 = .ok (.ireturn, 1) := by decide +kernel
theorem d_P_zeros_0 : decode c_P_zeros 0 = .ok (.aload_n 0, 1) := by decide +kernel
theorem d_P_zeros_1 : decode c_P_zeros 1 = .ok (.getfield 25, 3) := by decide +kernel
theorem d_P_zeros_4 : decode c_P_zeros 4 = .ok (.aload_n 0, 1) := by decide +kernel
theorem d_P_zeros_5 : decode c_P_zeros 5 = .ok (.getfield 22, 3) := by decide +kernel
theorem d_P_zeros_8 : decode c_P_zeros 8 = .ok (.isub, 1) := by decide +kernel
theorem d_P_zeros_9 : decode c_P_zeros 9 = .ok (.ireturn, 1) := by decide +kernel
theorem d_A_fillI_0 : decode c_A_fillI 0 = .ok (.iconst 0, 1) := by decide +kernel
theorem d_A_fillI_1 : decode c_A_fillI 1 = .ok (.istore_n 2, 1) := by decide +kernel
theorem d_A_fillI_2 : decode c_A_fillI 2 = .ok (.aload_n 0, 1) := by decide +kernel
theorem d_A_fillI_3 : decode c_A_fillI 3 = .ok (.arraylength, 1) := by decide +kernel
theorem d_A_fillI_4 : decode c_A_fillI 4 = .ok (.istore_n 3, 1) := by decide +kernel
theorem d_A_fillI_5 : decode c_A_fillI 5 = .ok (.iload_n 2, 1) := by decide +kernel
theorem d_A_fillI_6 : decode c_A_fillI 6 = .ok (.iload_n 3, 1) := by decide +kernel
theorem d_A_fillI_7 : decode c_A_fillI 7 = .ok (.if_icmp .ge 13, 3) := by decide +kernel
theorem d_A_fillI_10 : decode c_A_fillI 10 = .ok (.aload_n 0, 1) := by decide +kernel
theorem d_A_fillI_11 : decode c_A_fillI 11 = .ok (.iload_n 2, 1) := by decide +kernel
theorem d_A_fillI_12 : decode c_A_fillI 12 = .ok (.iload_n 1, 1) := by decide +kernel
theorem d_A_fillI_13 : decode c_A_fillI 13 = .ok (.iastore, 1) := by decide +kernel
theorem d_A_fillI_14 : decode c_A_fillI 14 = .ok (.iinc 2 1, 3) := by decide +kernel
theorem d_A_fillI_17 : decode c_A_fillI 17 = .ok (.goto (-12), 3) := by decide +kernel
theorem d_A_fillI_20 : decode c_A_fillI 20 = .ok (.return_, 1) := by decide +kernel

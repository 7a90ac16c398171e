theorem d_W_cell_0 : decode c_W_cell 0 = .ok (.iload_n 1, 1) := by decide +kernel
theorem d_W_cell_1 : decode c_W_cell 1 = .ok (.aload_n 0, 1) := by decide +kernel
theorem d_W_cell_2 : decode c_W_cell 2 = .ok (.arraylength, 1) := by decide +kernel
theorem d_W_cell_3 : decode c_W_cell 3 = .ok (.if_icmp .ge 9, 3) := by decide +kernel
theorem d_W_cell_6 : decode c_W_cell 6 = .ok (.aload_n 0, 1) := by decide +kernel
theorem d_W_cell_7 : decode c_W_cell 7 = .ok (.iload_n 1, 1) := by decide +kernel
theorem d_W_cell_8 : decode c_W_cell 8 = .ok (.iaload, 1) := by decide +kernel
theorem d_W_cell_9 : decode c_W_cell 9 = .ok (.goto 4, 3) := by decide +kernel
theorem d_W_cell_12 : decode c_W_cell 12 = .ok (.iconst 0, 1) := by decide +kernel
theorem d_W_cell_13 : decode c_W_cell 13 = .ok (.ireturn, 1) := by decide +kernel
theorem d_W_put_0 : decode c_W_put 0 = .ok (.aload 7, 2) := by decide +kernel
theorem d_W_put_2 : decode c_W_put 2 = .ok (.iconst 0, 1) := by decide +kernel
theorem d_W_put_3 : decode c_W_put 3 = .ok (.aload_n 0, 1) := by decide +kernel
theorem d_W_put_4 : decode c_W_put 4 = .ok (.iload_n 1, 1) := by decide +kernel
theorem d_W_put_5 : decode c_W_put 5 = .ok (.iload_n 2, 1) := by decide +kernel
theorem d_W_put_6 : decode c_W_put 6 = .ok (.iload_n 3, 1) := by decide +kernel
theorem d_W_put_7 : decode c_W_put 7 = .ok (.iload 4, 2) := by decide +kernel
theorem d_W_put_9 : decode c_W_put 9 = .ok (.iload 5, 2) := by decide +kernel
theorem d_W_put_11 : decode c_W_put 11 = .ok (.iload 6, 2) := by decide +kernel
theorem d_W_put_13 : decode c_W_put 13 = .ok (.invokevirtual 7, 3) := by decide +kernel
theorem d_W_put_16 : decode c_W_put 16 = .ok (.i2l, 1) := by decide +kernel
theorem d_W_put_17 : decode c_W_put 17 = .ok (.lastore, 1) := by decide +kernel
theorem d_W_put_18 : decode c_W_put 18 = .ok (.goto 15, 3) := by decide +kernel
theorem d_W_put_21 : decode c_W_put 21 = .ok (.astore 8, 2) := by decide +kernel
theorem d_W_put_23 : decode c_W_put 23 = .ok (.iconst 1, 1) := by decide +kernel
theorem d_W_put_24 : decode c_W_put 24 = .ok (.ireturn, 1) := by decide +kernel
theorem d_W_put_25 : decode c_W_put 25 = .ok (.astore 8, 2) := by decide +kernel
theorem d_W_put_27 : decode c_W_put 27 = .ok (.iconst 2, 1) := by decide +kernel
theorem d_W_put_28 : decode c_W_put 28 = .ok (.ireturn, 1) := by decide +kernel
theorem d_W_put_29 : decode c_W_put 29 = .ok (.astore 8, 2) := by decide +kernel
theorem d_W_put_31 : decode c_W_put 31 = .ok (.iconst 3, 1) := by decide +kernel
theorem d_W_put_32 : decode c_W_put 32 = .ok (.ireturn, 1) := by decide +kernel
theorem d_W_put_33 : decode c_W_put 33 = .ok (.iconst 0, 1) := by decide +kernel
theorem d_W_put_34 : decode c_W_put 34 = .ok (.ireturn, 1) := by decide +kernel
theorem d_W_at_0 : decode c_W_at 0 = .ok (.aload_n 2, 1) := by decide +kernel
theorem d_W_at_1 : decode c_W_at 1 = .ok (.iconst 0, 1) := by decide +kernel
theorem d_W_at_2 : decode c_W_at 2 = .ok (.aload_n 0, 1) := by decide +kernel
theorem d_W_at_3 : decode c_W_at 3 = .ok (.iload_n 1, 1) := by decide +kernel
theorem d_W_at_4 : decode c_W_at 4 = .ok (.invokevirtual 19, 3) := by decide +kernel
theorem d_W_at_7 : decode c_W_at 7 = .ok (.i2l, 1) := by decide +kernel
theorem d_W_at_8 : decode c_W_at 8 = .ok (.lastore, 1) := by decide +kernel
theorem d_W_at_9 : decode c_W_at 9 = .ok (.goto 6, 3) := by decide +kernel
theorem d_W_at_12 : decode c_W_at 12 = .ok (.astore_n 3, 1) := by decide +kernel
theorem d_W_at_13 : decode c_W_at 13 = .ok (.iconst 1, 1) := by decide +kernel
theorem d_W_at_14 : decode c_W_at 14 = .ok (.ireturn, 1) := by decide +kernel
theorem d_W_at_15 : decode c_W_at 15 = .ok (.iconst 0, 1) := by decide +kernel
theorem d_W_at_16 : decode c_W_at 16 = .ok (.ireturn, 1) := by decide +kernel
theorem d_W_rank_0 : decode c_W_rank 0 = .ok (.aload_n 3, 1) := by decide +kernel
theorem d_W_rank_1 : decode c_W_rank 1 = .ok (.iconst 0, 1) := by decide +kernel
theorem d_W_rank_2 : decode c_W_rank 2 = .ok (.aload_n 0, 1) := by decide +kernel
theorem d_W_rank_3 : decode c_W_rank 3 = .ok (.iload_n 1, 1) := by decide +kernel
theorem d_W_rank_4 : decode c_W_rank 4 = .ok (.iload_n 2, 1) := by decide +kernel
theorem d_W_rank_5 : decode c_W_rank 5 = .ok (.invokevirtual 23, 3) := by decide +kernel
theorem d_W_rank_8 : decode c_W_rank 8 = .ok (.i2l, 1) := by decide +kernel
theorem d_W_rank_9 : decode c_W_rank 9 = .ok (.lastore, 1) := by decide +kernel
theorem d_W_rank_10 : decode c_W_rank 10 = .ok (.goto 7, 3) := by decide +kernel
theorem d_W_rank_13 : decode c_W_rank 13 = .ok (.astore 4, 2) := by decide +kernel
theorem d_W_rank_15 : decode c_W_rank 15 = .ok (.iconst 1, 1) := by decide +kernel
theorem d_W_rank_16 : decode c_W_rank 16 = .ok (.ireturn, 1) := by decide +kernel
theorem d_W_rank_17 : decode c_W_rank 17 = .ok (.iconst 0, 1) := by decide +kernel
theorem d_W_rank_18 : decode c_W_rank 18 = .ok (.ireturn, 1) := by decide +kernel
theorem d_W_select_0 : decode c_W_select 0 = .ok (.aload_n 3, 1) := by decide +kernel
theorem d_W_select_1 : decode c_W_select 1 = .ok (.iconst 0, 1) := by decide +kernel
theorem d_W_select_2 : decode c_W_select 2 = .ok (.aload_n 0, 1) := by decide +kernel
theorem d_W_select_3 : decode c_W_select 3 = .ok (.iload_n 1, 1) := by decide +kernel
theorem d_W_select_4 : decode c_W_select 4 = .ok (.iload_n 2, 1) := by decide +kernel
theorem d_W_select_5 : decode c_W_select 5 = .ok (.invokevirtual 27, 3) := by decide +kernel
theorem d_W_select_8 : decode c_W_select 8 = .ok (.i2l, 1) := by decide +kernel
theorem d_W_select_9 : decode c_W_select 9 = .ok (.lastore, 1) := by decide +kernel
theorem d_W_select_10 : decode c_W_select 10 = .ok (.goto 7, 3) := by decide +kernel
theorem d_W_select_13 : decode c_W_select 13 = .ok (.astore 4, 2) := by decide +kernel
theorem d_W_select_15 : decode c_W_select 15 = .ok (.iconst 1, 1) := by decide +kernel
theorem d_W_select_16 : decode c_W_select 16 = .ok (.ireturn, 1) := by decide +kernel
theorem d_W_select_17 : decode c_W_select 17 = .ok (.iconst 0, 1) := by decide +kernel
theorem d_W_select_18 : decode c_W_select 18 = .ok (.ireturn, 1) := by decide +kernel
theorem d_W_quantile_0 : decode c_W_quantile 0 = .ok (.aload 4, 2) := by decide +kernel
theorem d_W_quantile_2 : decode c_W_quantile 2 = .ok (.iconst 0, 1) := by decide +kernel
theorem d_W_quantile_3 : decode c_W_quantile 3 = .ok (.aload_n 0, 1) := by decide +kernel
theorem d_W_quantile_4 : decode c_W_quantile 4 = .ok (.iload_n 1, 1) := by decide +kernel
theorem d_W_quantile_5 : decode c_W_quantile 5 = .ok (.iload_n 2, 1) := by decide +kernel
theorem d_W_quantile_6 : decode c_W_quantile 6 = .ok (.iload_n 3, 1) := by decide +kernel
theorem d_W_quantile_7 : decode c_W_quantile 7 = .ok (.invokevirtual 30, 3) := by decide +kernel
theorem d_W_quantile_10 : decode c_W_quantile 10 = .ok (.i2l, 1) := by decide +kernel
theorem d_W_quantile_11 : decode c_W_quantile 11 = .ok (.lastore, 1) := by decide +kernel
theorem d_W_quantile_12 : decode c_W_quantile 12 = .ok (.goto 7, 3) := by decide +kernel
theorem d_W_quantile_15 : decode c_W_quantile 15 = .ok (.astore 5, 2) := by decide +kernel
theorem d_W_quantile_17 : decode c_W_quantile 17 = .ok (.iconst 1, 1) := by decide +kernel
theorem d_W_quantile_18 : decode c_W_quantile 18 = .ok (.ireturn, 1) := by decide +kernel
theorem d_W_quantile_19 : decode c_W_quantile 19 = .ok (.iconst 0, 1) := by decide +kernel
theorem d_W_quantile_20 : decode c_W_quantile 20 = .ok (.ireturn, 1) := by decide +kernel
theorem d_W_between_0 : decode c_W_between 0 = .ok (.aload 5, 2) := by decide +kernel
theorem d_W_between_2 : decode c_W_between 2 = .ok (.iconst 0, 1) := by decide +kernel
theorem d_W_between_3 : decode c_W_between 3 = .ok (.aload_n 0, 1) := by decide +kernel
theorem d_W_between_4 : decode c_W_between 4 = .ok (.iload_n 1, 1) := by decide +kernel
theorem d_W_between_5 : decode c_W_between 5 = .ok (.iload_n 2, 1) := by decide +kernel
theorem d_W_between_6 : decode c_W_between 6 = .ok (.iload_n 3, 1) := by decide +kernel
theorem d_W_between_7 : decode c_W_between 7 = .ok (.iload 4, 2) := by decide +kernel
theorem d_W_between_9 : decode c_W_between 9 = .ok (.invokevirtual 34, 3) := by decide +kernel
theorem d_W_between_12 : decode c_W_between 12 = .ok (.i2l, 1) := by decide +kernel
theorem d_W_between_13 : decode c_W_between 13 = .ok (.lastore, 1) := by decide +kernel
theorem d_W_between_14 : decode c_W_between 14 = .ok (.goto 7, 3) := by decide +kernel
theorem d_W_between_17 : decode c_W_between 17 = .ok (.astore 6, 2) := by decide +kernel
theorem d_W_between_19 : decode c_W_between 19 = .ok (.iconst 1, 1) := by decide +kernel
theorem d_W_between_20 : decode c_W_between 20 = .ok (.ireturn, 1) := by decide +kernel
theorem d_W_between_21 : decode c_W_between 21 = .ok (.iconst 0, 1) := by decide +kernel
theorem d_W_between_22 : decode c_W_between 22 = .ok (.ireturn, 1) := by decide +kernel
theorem d_W_below_0 : decode c_W_below 0 = .ok (.aload 4, 2) := by decide +kernel
theorem d_W_below_2 : decode c_W_below 2 = .ok (.iconst 0, 1) := by decide +kernel
theorem d_W_below_3 : decode c_W_below 3 = .ok (.aload_n 0, 1) := by decide +kernel
theorem d_W_below_4 : decode c_W_below 4 = .ok (.iload_n 1, 1) := by decide +kernel
theorem d_W_below_5 : decode c_W_below 5 = .ok (.iload_n 2, 1) := by decide +kernel
theorem d_W_below_6 : decode c_W_below 6 = .ok (.iload_n 3, 1) := by decide +kernel
theorem d_W_below_7 : decode c_W_below 7 = .ok (.invokevirtual 38, 3) := by decide +kernel
theorem d_W_below_10 : decode c_W_below 10 = .ok (.i2l, 1) := by decide +kernel
theorem d_W_below_11 : decode c_W_below 11 = .ok (.lastore, 1) := by decide +kernel
theorem d_W_below_12 : decode c_W_below 12 = .ok (.goto 7, 3) := by decide +kernel
theorem d_W_below_15 : decode c_W_below 15 = .ok (.astore 5, 2) := by decide +kernel
theorem d_W_below_17 : decode c_W_below 17 = .ok (.iconst 1, 1) := by decide +kernel
theorem d_W_below_18 : decode c_W_below 18 = .ok (.ireturn, 1) := by decide +kernel
theorem d_W_below_19 : decode c_W_below 19 = .ok (.iconst 0, 1) := by decide +kernel
theorem d_W_below_20 : decode c_W_below 20 = .ok (.ireturn, 1) := by decide +kernel
theorem d_W_above_0 : decode c_W_above 0 = .ok (.aload 4, 2) := by decide +kernel
theorem d_W_above_2 : decode c_W_above 2 = .ok (.iconst 0, 1) := by decide +kernel
theorem d_W_above_3 : decode c_W_above 3 = .ok (.aload_n 0, 1) := by decide +kernel
theorem d_W_above_4 : decode c_W_above 4 = .ok (.iload_n 1, 1) := by decide +kernel
theorem d_W_above_5 : decode c_W_above 5 = .ok (.iload_n 2, 1) := by decide +kernel
theorem d_W_above_6 : decode c_W_above 6 = .ok (.iload_n 3, 1) := by decide +kernel
theorem d_W_above_7 : decode c_W_above 7 = .ok (.invokevirtual 41, 3) := by decide +kernel
theorem d_W_above_10 : decode c_W_above 10 = .ok (.i2l, 1) := by decide +kernel
theorem d_W_above_11 : decode c_W_above 11 = .ok (.lastore, 1) := by decide +kernel
theorem d_W_above_12 : decode c_W_above 12 = .ok (.goto 7, 3) := by decide +kernel
theorem d_W_above_15 : decode c_W_above 15 = .ok (.astore 5, 2) := by decide +kernel
theorem d_W_above_17 : decode c_W_above 17 = .ok (.iconst 1, 1) := by decide +kernel
theorem d_W_above_18 : decode c_W_above 18 = .ok (.ireturn, 1) := by decide +kernel
theorem d_W_above_19 : decode c_W_above 19 = .ok (.iconst 0, 1) := by decide +kernel
theorem d_W_above_20 : decode c_W_above 20 = .ok (.ireturn, 1) := by decide +kernel
theorem d_W_different_0 : decode c_W_different 0 = .ok (.aload_n 3, 1) := by decide +kernel
theorem d_W_different_1 : decode c_W_different 1 = .ok (.iconst 0, 1) := by decide +kernel
theorem d_W_different_2 : decode c_W_different 2 = .ok (.aload_n 0, 1) := by decide +kernel
theorem d_W_different_3 : decode c_W_different 3 = .ok (.iload_n 1, 1) := by decide +kernel
theorem d_W_different_4 : decode c_W_different 4 = .ok (.iload_n 2, 1) := by decide +kernel
theorem d_W_different_5 : decode c_W_different 5 = .ok (.invokevirtual 44, 3) := by decide +kernel
theorem d_W_different_8 : decode c_W_different 8 = .ok (.i2l, 1) := by decide +kernel
theorem d_W_different_9 : decode c_W_different 9 = .ok (.lastore, 1) := by decide +kernel
theorem d_W_different_10 : decode c_W_different 10 = .ok (.goto 7, 3) := by decide +kernel
theorem d_W_different_13 : decode c_W_different 13 = .ok (.astore 4, 2) := by decide +kernel
theorem d_W_different_15 : decode c_W_different 15 = .ok (.iconst 1, 1) := by decide +kernel
theorem d_W_different_16 : decode c_W_different 16 = .ok (.ireturn, 1) := by decide +kernel
theorem d_W_different_17 : decode c_W_different 17 = .ok (.iconst 0, 1) := by decide +kernel
theorem d_W_different_18 : decode c_W_different 18 = .ok (.ireturn, 1) := by decide +kernel
theorem d_W_frequent_0 : decode c_W_frequent 0 = .ok (.aload 4, 2) := by decide +kernel
theorem d_W_frequent_2 : decode c_W_frequent 2 = .ok (.iconst 0, 1) := by decide +kernel
theorem d_W_frequent_3 : decode c_W_frequent 3 = .ok (.aload_n 0, 1) := by decide +kernel
theorem d_W_frequent_4 : decode c_W_frequent 4 = .ok (.iload_n 1, 1) := by decide +kernel
theorem d_W_frequent_5 : decode c_W_frequent 5 = .ok (.iload_n 2, 1) := by decide +kernel
theorem d_W_frequent_6 : decode c_W_frequent 6 = .ok (.iload_n 3, 1) := by decide +kernel
theorem d_W_frequent_7 : decode c_W_frequent 7 = .ok (.invokevirtual 47, 3) := by decide +kernel
theorem d_W_frequent_10 : decode c_W_frequent 10 = .ok (.i2l, 1) := by decide +kernel
theorem d_W_frequent_11 : decode c_W_frequent 11 = .ok (.lastore, 1) := by decide +kernel
theorem d_W_frequent_12 : decode c_W_frequent 12 = .ok (.goto 7, 3) := by decide +kernel
theorem d_W_frequent_15 : decode c_W_frequent 15 = .ok (.astore 5, 2) := by decide +kernel
theorem d_W_frequent_17 : decode c_W_frequent 17 = .ok (.iconst 1, 1) := by decide +kernel
theorem d_W_frequent_18 : decode c_W_frequent 18 = .ok (.ireturn, 1) := by decide +kernel
theorem d_W_frequent_19 : decode c_W_frequent 19 = .ok (.iconst 0, 1) := by decide +kernel
theorem d_W_frequent_20 : decode c_W_frequent 20 = .ok (.ireturn, 1) := by decide +kernel
theorem d_W_count_0 : decode c_W_count 0 = .ok (.aload_n 2, 1) := by decide +kernel
theorem d_W_count_1 : decode c_W_count 1 = .ok (.iconst 0, 1) := by decide +kernel
theorem d_W_count_2 : decode c_W_count 2 = .ok (.aload_n 0, 1) := by decide +kernel
theorem d_W_count_3 : decode c_W_count 3 = .ok (.iload_n 1, 1) := by decide +kernel
theorem d_W_count_4 : decode c_W_count 4 = .ok (.invokevirtual 50, 3) := by decide +kernel
theorem d_W_count_7 : decode c_W_count 7 = .ok (.i2l, 1) := by decide +kernel
theorem d_W_count_8 : decode c_W_count 8 = .ok (.lastore, 1) := by decide +kernel
theorem d_W_count_9 : decode c_W_count 9 = .ok (.goto 6, 3) := by decide +kernel
theorem d_W_count_12 : decode c_W_count 12 = .ok (.astore_n 3, 1) := by decide +kernel
theorem d_W_count_13 : decode c_W_count 13 = .ok (.iconst 1, 1) := by decide +kernel
theorem d_W_count_14 : decode c_W_count 14 = .ok (.ireturn, 1) := by decide +kernel
theorem d_W_count_15 : decode c_W_count 15 = .ok (.iconst 0, 1) := by decide +kernel
theorem d_W_count_16 : decode c_W_count 16 = .ok (.ireturn, 1) := by decide +kernel

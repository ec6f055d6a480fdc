theorem dL_cell_0 : decode method_2_code 0 = .ok (.iload_n 1, 1) := by decide +kernel
theorem dL_cell_1 : decode method_2_code 1 = .ok (.aload_n 0, 1) := by decide +kernel
theorem dL_cell_2 : decode method_2_code 2 = .ok (.arraylength, 1) := by decide +kernel
theorem dL_cell_3 : decode method_2_code 3 = .ok (.if_icmp .ge 9, 3) := by decide +kernel
theorem dL_cell_6 : decode method_2_code 6 = .ok (.aload_n 0, 1) := by decide +kernel
theorem dL_cell_7 : decode method_2_code 7 = .ok (.iload_n 1, 1) := by decide +kernel
theorem dL_cell_8 : decode method_2_code 8 = .ok (.iaload, 1) := by decide +kernel
theorem dL_cell_9 : decode method_2_code 9 = .ok (.goto 4, 3) := by decide +kernel
theorem dL_cell_12 : decode method_2_code 12 = .ok (.iconst 0, 1) := by decide +kernel
theorem dL_cell_13 : decode method_2_code 13 = .ok (.ireturn, 1) := by decide +kernel
theorem dL_add_0 : decode method_3_code 0 = .ok (.aload 4, 2) := by decide +kernel
theorem dL_add_2 : decode method_3_code 2 = .ok (.iconst 0, 1) := by decide +kernel
theorem dL_add_3 : decode method_3_code 3 = .ok (.aload_n 0, 1) := by decide +kernel
theorem dL_add_4 : decode method_3_code 4 = .ok (.iload_n 1, 1) := by decide +kernel
theorem dL_add_5 : decode method_3_code 5 = .ok (.lload_n 2, 1) := by decide +kernel
theorem dL_add_6 : decode method_3_code 6 = .ok (.invokevirtual 7, 3) := by decide +kernel
theorem dL_add_9 : decode method_3_code 9 = .ok (.i2l, 1) := by decide +kernel
theorem dL_add_10 : decode method_3_code 10 = .ok (.lastore, 1) := by decide +kernel
theorem dL_add_11 : decode method_3_code 11 = .ok (.goto 11, 3) := by decide +kernel
theorem dL_add_14 : decode method_3_code 14 = .ok (.astore 5, 2) := by decide +kernel
theorem dL_add_16 : decode method_3_code 16 = .ok (.iconst 1, 1) := by decide +kernel
theorem dL_add_17 : decode method_3_code 17 = .ok (.ireturn, 1) := by decide +kernel
theorem dL_add_18 : decode method_3_code 18 = .ok (.astore 5, 2) := by decide +kernel
theorem dL_add_20 : decode method_3_code 20 = .ok (.iconst 2, 1) := by decide +kernel
theorem dL_add_21 : decode method_3_code 21 = .ok (.ireturn, 1) := by decide +kernel
theorem dL_add_22 : decode method_3_code 22 = .ok (.iconst 0, 1) := by decide +kernel
theorem dL_add_23 : decode method_3_code 23 = .ok (.ireturn, 1) := by decide +kernel
theorem dL_move_0 : decode method_4_code 0 = .ok (.aload 5, 2) := by decide +kernel
theorem dL_move_2 : decode method_4_code 2 = .ok (.iconst 0, 1) := by decide +kernel
theorem dL_move_3 : decode method_4_code 3 = .ok (.aload_n 0, 1) := by decide +kernel
theorem dL_move_4 : decode method_4_code 4 = .ok (.iload_n 1, 1) := by decide +kernel
theorem dL_move_5 : decode method_4_code 5 = .ok (.iload_n 2, 1) := by decide +kernel
theorem dL_move_6 : decode method_4_code 6 = .ok (.lload_n 3, 1) := by decide +kernel
theorem dL_move_7 : decode method_4_code 7 = .ok (.invokevirtual 17, 3) := by decide +kernel
theorem dL_move_10 : decode method_4_code 10 = .ok (.i2l, 1) := by decide +kernel
theorem dL_move_11 : decode method_4_code 11 = .ok (.lastore, 1) := by decide +kernel
theorem dL_move_12 : decode method_4_code 12 = .ok (.goto 11, 3) := by decide +kernel
theorem dL_move_15 : decode method_4_code 15 = .ok (.astore 6, 2) := by decide +kernel
theorem dL_move_17 : decode method_4_code 17 = .ok (.iconst 1, 1) := by decide +kernel
theorem dL_move_18 : decode method_4_code 18 = .ok (.ireturn, 1) := by decide +kernel
theorem dL_move_19 : decode method_4_code 19 = .ok (.astore 6, 2) := by decide +kernel
theorem dL_move_21 : decode method_4_code 21 = .ok (.iconst 2, 1) := by decide +kernel
theorem dL_move_22 : decode method_4_code 22 = .ok (.ireturn, 1) := by decide +kernel
theorem dL_move_23 : decode method_4_code 23 = .ok (.iconst 0, 1) := by decide +kernel
theorem dL_move_24 : decode method_4_code 24 = .ok (.ireturn, 1) := by decide +kernel
theorem dL_begin_0 : decode method_5_code 0 = .ok (.aload_n 0, 1) := by decide +kernel
theorem dL_begin_1 : decode method_5_code 1 = .ok (.invokevirtual 21, 3) := by decide +kernel
theorem dL_begin_4 : decode method_5_code 4 = .ok (.goto 6, 3) := by decide +kernel
theorem dL_begin_7 : decode method_5_code 7 = .ok (.astore_n 1, 1) := by decide +kernel
theorem dL_begin_8 : decode method_5_code 8 = .ok (.iconst 1, 1) := by decide +kernel
theorem dL_begin_9 : decode method_5_code 9 = .ok (.ireturn, 1) := by decide +kernel
theorem dL_begin_10 : decode method_5_code 10 = .ok (.iconst 0, 1) := by decide +kernel
theorem dL_begin_11 : decode method_5_code 11 = .ok (.ireturn, 1) := by decide +kernel
theorem dL_end_0 : decode method_6_code 0 = .ok (.aload_n 1, 1) := by decide +kernel
theorem dL_end_1 : decode method_6_code 1 = .ok (.iconst 0, 1) := by decide +kernel
theorem dL_end_2 : decode method_6_code 2 = .ok (.aload_n 0, 1) := by decide +kernel
theorem dL_end_3 : decode method_6_code 3 = .ok (.invokevirtual 24, 3) := by decide +kernel
theorem dL_end_6 : decode method_6_code 6 = .ok (.i2l, 1) := by decide +kernel
theorem dL_end_7 : decode method_6_code 7 = .ok (.lastore, 1) := by decide +kernel
theorem dL_end_8 : decode method_6_code 8 = .ok (.goto 6, 3) := by decide +kernel
theorem dL_end_11 : decode method_6_code 11 = .ok (.astore_n 2, 1) := by decide +kernel
theorem dL_end_12 : decode method_6_code 12 = .ok (.iconst 1, 1) := by decide +kernel
theorem dL_end_13 : decode method_6_code 13 = .ok (.ireturn, 1) := by decide +kernel
theorem dL_end_14 : decode method_6_code 14 = .ok (.iconst 0, 1) := by decide +kernel
theorem dL_end_15 : decode method_6_code 15 = .ok (.ireturn, 1) := by decide +kernel
theorem dL_drop_0 : decode method_7_code 0 = .ok (.aload_n 1, 1) := by decide +kernel
theorem dL_drop_1 : decode method_7_code 1 = .ok (.iconst 0, 1) := by decide +kernel
theorem dL_drop_2 : decode method_7_code 2 = .ok (.aload_n 0, 1) := by decide +kernel
theorem dL_drop_3 : decode method_7_code 3 = .ok (.invokevirtual 28, 3) := by decide +kernel
theorem dL_drop_6 : decode method_7_code 6 = .ok (.i2l, 1) := by decide +kernel
theorem dL_drop_7 : decode method_7_code 7 = .ok (.lastore, 1) := by decide +kernel
theorem dL_drop_8 : decode method_7_code 8 = .ok (.goto 6, 3) := by decide +kernel
theorem dL_drop_11 : decode method_7_code 11 = .ok (.astore_n 2, 1) := by decide +kernel
theorem dL_drop_12 : decode method_7_code 12 = .ok (.iconst 1, 1) := by decide +kernel
theorem dL_drop_13 : decode method_7_code 13 = .ok (.ireturn, 1) := by decide +kernel
theorem dL_drop_14 : decode method_7_code 14 = .ok (.iconst 0, 1) := by decide +kernel
theorem dL_drop_15 : decode method_7_code 15 = .ok (.ireturn, 1) := by decide +kernel
theorem dL_snapshot_0 : decode method_8_code 0 = .ok (.aload_n 1, 1) := by decide +kernel
theorem dL_snapshot_1 : decode method_8_code 1 = .ok (.iconst 0, 1) := by decide +kernel
theorem dL_snapshot_2 : decode method_8_code 2 = .ok (.aload_n 0, 1) := by decide +kernel
theorem dL_snapshot_3 : decode method_8_code 3 = .ok (.invokevirtual 31, 3) := by decide +kernel
theorem dL_snapshot_6 : decode method_8_code 6 = .ok (.i2l, 1) := by decide +kernel
theorem dL_snapshot_7 : decode method_8_code 7 = .ok (.lastore, 1) := by decide +kernel
theorem dL_snapshot_8 : decode method_8_code 8 = .ok (.goto 6, 3) := by decide +kernel
theorem dL_snapshot_11 : decode method_8_code 11 = .ok (.astore_n 2, 1) := by decide +kernel
theorem dL_snapshot_12 : decode method_8_code 12 = .ok (.iconst 1, 1) := by decide +kernel
theorem dL_snapshot_13 : decode method_8_code 13 = .ok (.ireturn, 1) := by decide +kernel
theorem dL_snapshot_14 : decode method_8_code 14 = .ok (.iconst 0, 1) := by decide +kernel
theorem dL_snapshot_15 : decode method_8_code 15 = .ok (.ireturn, 1) := by decide +kernel
theorem dL_crash_0 : decode method_9_code 0 = .ok (.aload_n 0, 1) := by decide +kernel
theorem dL_crash_1 : decode method_9_code 1 = .ok (.iload_n 1, 1) := by decide +kernel
theorem dL_crash_2 : decode method_9_code 2 = .ok (.invokevirtual 34, 3) := by decide +kernel
theorem dL_crash_5 : decode method_9_code 5 = .ok (.goto 9, 3) := by decide +kernel
theorem dL_crash_8 : decode method_9_code 8 = .ok (.astore_n 2, 1) := by decide +kernel
theorem dL_crash_9 : decode method_9_code 9 = .ok (.iconst 1, 1) := by decide +kernel
theorem dL_crash_10 : decode method_9_code 10 = .ok (.ireturn, 1) := by decide +kernel
theorem dL_crash_11 : decode method_9_code 11 = .ok (.astore_n 2, 1) := by decide +kernel
theorem dL_crash_12 : decode method_9_code 12 = .ok (.iconst 2, 1) := by decide +kernel
theorem dL_crash_13 : decode method_9_code 13 = .ok (.ireturn, 1) := by decide +kernel
theorem dL_crash_14 : decode method_9_code 14 = .ok (.iconst 0, 1) := by decide +kernel
theorem dL_crash_15 : decode method_9_code 15 = .ok (.ireturn, 1) := by decide +kernel
theorem dL_amount_0 : decode method_10_code 0 = .ok (.aload_n 2, 1) := by decide +kernel
theorem dL_amount_1 : decode method_10_code 1 = .ok (.iconst 0, 1) := by decide +kernel
theorem dL_amount_2 : decode method_10_code 2 = .ok (.aload_n 0, 1) := by decide +kernel
theorem dL_amount_3 : decode method_10_code 3 = .ok (.iload_n 1, 1) := by decide +kernel
theorem dL_amount_4 : decode method_10_code 4 = .ok (.invokevirtual 38, 3) := by decide +kernel
theorem dL_amount_7 : decode method_10_code 7 = .ok (.lastore, 1) := by decide +kernel
theorem dL_amount_8 : decode method_10_code 8 = .ok (.goto 9, 3) := by decide +kernel
theorem dL_amount_11 : decode method_10_code 11 = .ok (.astore_n 3, 1) := by decide +kernel
theorem dL_amount_12 : decode method_10_code 12 = .ok (.iconst 1, 1) := by decide +kernel
theorem dL_amount_13 : decode method_10_code 13 = .ok (.ireturn, 1) := by decide +kernel
theorem dL_amount_14 : decode method_10_code 14 = .ok (.astore_n 3, 1) := by decide +kernel
theorem dL_amount_15 : decode method_10_code 15 = .ok (.iconst 2, 1) := by decide +kernel
theorem dL_amount_16 : decode method_10_code 16 = .ok (.ireturn, 1) := by decide +kernel
theorem dL_amount_17 : decode method_10_code 17 = .ok (.iconst 0, 1) := by decide +kernel
theorem dL_amount_18 : decode method_10_code 18 = .ok (.ireturn, 1) := by decide +kernel
theorem dL_changes_0 : decode method_11_code 0 = .ok (.aload_n 2, 1) := by decide +kernel
theorem dL_changes_1 : decode method_11_code 1 = .ok (.iconst 0, 1) := by decide +kernel
theorem dL_changes_2 : decode method_11_code 2 = .ok (.aload_n 0, 1) := by decide +kernel
theorem dL_changes_3 : decode method_11_code 3 = .ok (.iload_n 1, 1) := by decide +kernel
theorem dL_changes_4 : decode method_11_code 4 = .ok (.invokevirtual 42, 3) := by decide +kernel
theorem dL_changes_7 : decode method_11_code 7 = .ok (.i2l, 1) := by decide +kernel
theorem dL_changes_8 : decode method_11_code 8 = .ok (.lastore, 1) := by decide +kernel
theorem dL_changes_9 : decode method_11_code 9 = .ok (.goto 9, 3) := by decide +kernel
theorem dL_changes_12 : decode method_11_code 12 = .ok (.astore_n 3, 1) := by decide +kernel
theorem dL_changes_13 : decode method_11_code 13 = .ok (.iconst 1, 1) := by decide +kernel
theorem dL_changes_14 : decode method_11_code 14 = .ok (.ireturn, 1) := by decide +kernel
theorem dL_changes_15 : decode method_11_code 15 = .ok (.astore_n 3, 1) := by decide +kernel
theorem dL_changes_16 : decode method_11_code 16 = .ok (.iconst 2, 1) := by decide +kernel
theorem dL_changes_17 : decode method_11_code 17 = .ok (.ireturn, 1) := by decide +kernel
theorem dL_changes_18 : decode method_11_code 18 = .ok (.iconst 0, 1) := by decide +kernel
theorem dL_changes_19 : decode method_11_code 19 = .ok (.ireturn, 1) := by decide +kernel
theorem dL_count_0 : decode method_12_code 0 = .ok (.aload_n 2, 1) := by decide +kernel
theorem dL_count_1 : decode method_12_code 1 = .ok (.iconst 0, 1) := by decide +kernel
theorem dL_count_2 : decode method_12_code 2 = .ok (.aload_n 0, 1) := by decide +kernel
theorem dL_count_3 : decode method_12_code 3 = .ok (.iload_n 1, 1) := by decide +kernel
theorem dL_count_4 : decode method_12_code 4 = .ok (.invokevirtual 46, 3) := by decide +kernel
theorem dL_count_7 : decode method_12_code 7 = .ok (.i2l, 1) := by decide +kernel
theorem dL_count_8 : decode method_12_code 8 = .ok (.lastore, 1) := by decide +kernel
theorem dL_count_9 : decode method_12_code 9 = .ok (.goto 9, 3) := by decide +kernel
theorem dL_count_12 : decode method_12_code 12 = .ok (.astore_n 3, 1) := by decide +kernel
theorem dL_count_13 : decode method_12_code 13 = .ok (.iconst 1, 1) := by decide +kernel
theorem dL_count_14 : decode method_12_code 14 = .ok (.ireturn, 1) := by decide +kernel
theorem dL_count_15 : decode method_12_code 15 = .ok (.astore_n 3, 1) := by decide +kernel
theorem dL_count_16 : decode method_12_code 16 = .ok (.iconst 2, 1) := by decide +kernel
theorem dL_count_17 : decode method_12_code 17 = .ok (.ireturn, 1) := by decide +kernel
theorem dL_count_18 : decode method_12_code 18 = .ok (.iconst 0, 1) := by decide +kernel
theorem dL_count_19 : decode method_12_code 19 = .ok (.ireturn, 1) := by decide +kernel

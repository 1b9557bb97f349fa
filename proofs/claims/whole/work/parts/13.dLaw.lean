theorem d_Law_put_0 : decode method_3_code 0 = .ok (.aload 5, 2) := by decide +kernel
theorem d_Law_put_2 : decode method_3_code 2 = .ok (.iconst 0, 1) := by decide +kernel
theorem d_Law_put_3 : decode method_3_code 3 = .ok (.aload_n 0, 1) := by decide +kernel
theorem d_Law_put_4 : decode method_3_code 4 = .ok (.iload_n 1, 1) := by decide +kernel
theorem d_Law_put_5 : decode method_3_code 5 = .ok (.iload_n 2, 1) := by decide +kernel
theorem d_Law_put_6 : decode method_3_code 6 = .ok (.lload_n 3, 1) := by decide +kernel
theorem d_Law_put_7 : decode method_3_code 7 = .ok (.invokevirtual 7, 3) := by decide +kernel
theorem d_Law_put_10 : decode method_3_code 10 = .ok (.ifCond .eq 7, 3) := by decide +kernel
theorem d_Law_put_13 : decode method_3_code 13 = .ok (.lconst 1, 1) := by decide +kernel
theorem d_Law_put_14 : decode method_3_code 14 = .ok (.goto 4, 3) := by decide +kernel
theorem d_Law_put_17 : decode method_3_code 17 = .ok (.lconst 0, 1) := by decide +kernel
theorem d_Law_put_18 : decode method_3_code 18 = .ok (.lastore, 1) := by decide +kernel
theorem d_Law_put_19 : decode method_3_code 19 = .ok (.goto 15, 3) := by decide +kernel
theorem d_Law_put_22 : decode method_3_code 22 = .ok (.astore 6, 2) := by decide +kernel
theorem d_Law_put_24 : decode method_3_code 24 = .ok (.iconst 1, 1) := by decide +kernel
theorem d_Law_put_25 : decode method_3_code 25 = .ok (.ireturn, 1) := by decide +kernel
theorem d_Law_put_26 : decode method_3_code 26 = .ok (.astore 6, 2) := by decide +kernel
theorem d_Law_put_28 : decode method_3_code 28 = .ok (.iconst 2, 1) := by decide +kernel
theorem d_Law_put_29 : decode method_3_code 29 = .ok (.ireturn, 1) := by decide +kernel
theorem d_Law_put_30 : decode method_3_code 30 = .ok (.astore 6, 2) := by decide +kernel
theorem d_Law_put_32 : decode method_3_code 32 = .ok (.iconst 3, 1) := by decide +kernel
theorem d_Law_put_33 : decode method_3_code 33 = .ok (.ireturn, 1) := by decide +kernel
theorem d_Law_put_34 : decode method_3_code 34 = .ok (.iconst 0, 1) := by decide +kernel
theorem d_Law_put_35 : decode method_3_code 35 = .ok (.ireturn, 1) := by decide +kernel
theorem d_Law_get_0 : decode method_4_code 0 = .ok (.aload_n 3, 1) := by decide +kernel
theorem d_Law_get_1 : decode method_4_code 1 = .ok (.iconst 0, 1) := by decide +kernel
theorem d_Law_get_2 : decode method_4_code 2 = .ok (.aload_n 0, 1) := by decide +kernel
theorem d_Law_get_3 : decode method_4_code 3 = .ok (.iload_n 1, 1) := by decide +kernel
theorem d_Law_get_4 : decode method_4_code 4 = .ok (.iload_n 2, 1) := by decide +kernel
theorem d_Law_get_5 : decode method_4_code 5 = .ok (.invokevirtual 19, 3) := by decide +kernel
theorem d_Law_get_8 : decode method_4_code 8 = .ok (.lastore, 1) := by decide +kernel
theorem d_Law_get_9 : decode method_4_code 9 = .ok (.goto 11, 3) := by decide +kernel
theorem d_Law_get_12 : decode method_4_code 12 = .ok (.astore 4, 2) := by decide +kernel
theorem d_Law_get_14 : decode method_4_code 14 = .ok (.iconst 1, 1) := by decide +kernel
theorem d_Law_get_15 : decode method_4_code 15 = .ok (.ireturn, 1) := by decide +kernel
theorem d_Law_get_16 : decode method_4_code 16 = .ok (.astore 4, 2) := by decide +kernel
theorem d_Law_get_18 : decode method_4_code 18 = .ok (.iconst 2, 1) := by decide +kernel
theorem d_Law_get_19 : decode method_4_code 19 = .ok (.ireturn, 1) := by decide +kernel
theorem d_Law_get_20 : decode method_4_code 20 = .ok (.iconst 0, 1) := by decide +kernel
theorem d_Law_get_21 : decode method_4_code 21 = .ok (.ireturn, 1) := by decide +kernel
theorem d_Law_remove_0 : decode method_5_code 0 = .ok (.aload_n 3, 1) := by decide +kernel
theorem d_Law_remove_1 : decode method_5_code 1 = .ok (.iconst 0, 1) := by decide +kernel
theorem d_Law_remove_2 : decode method_5_code 2 = .ok (.aload_n 0, 1) := by decide +kernel
theorem d_Law_remove_3 : decode method_5_code 3 = .ok (.iload_n 1, 1) := by decide +kernel
theorem d_Law_remove_4 : decode method_5_code 4 = .ok (.iload_n 2, 1) := by decide +kernel
theorem d_Law_remove_5 : decode method_5_code 5 = .ok (.invokevirtual 25, 3) := by decide +kernel
theorem d_Law_remove_8 : decode method_5_code 8 = .ok (.lastore, 1) := by decide +kernel
theorem d_Law_remove_9 : decode method_5_code 9 = .ok (.goto 15, 3) := by decide +kernel
theorem d_Law_remove_12 : decode method_5_code 12 = .ok (.astore 4, 2) := by decide +kernel
theorem d_Law_remove_14 : decode method_5_code 14 = .ok (.iconst 1, 1) := by decide +kernel
theorem d_Law_remove_15 : decode method_5_code 15 = .ok (.ireturn, 1) := by decide +kernel
theorem d_Law_remove_16 : decode method_5_code 16 = .ok (.astore 4, 2) := by decide +kernel
theorem d_Law_remove_18 : decode method_5_code 18 = .ok (.iconst 2, 1) := by decide +kernel
theorem d_Law_remove_19 : decode method_5_code 19 = .ok (.ireturn, 1) := by decide +kernel
theorem d_Law_remove_20 : decode method_5_code 20 = .ok (.astore 4, 2) := by decide +kernel
theorem d_Law_remove_22 : decode method_5_code 22 = .ok (.iconst 3, 1) := by decide +kernel
theorem d_Law_remove_23 : decode method_5_code 23 = .ok (.ireturn, 1) := by decide +kernel
theorem d_Law_remove_24 : decode method_5_code 24 = .ok (.iconst 0, 1) := by decide +kernel
theorem d_Law_remove_25 : decode method_5_code 25 = .ok (.ireturn, 1) := by decide +kernel
theorem d_Law_replace_0 : decode method_6_code 0 = .ok (.aload 7, 2) := by decide +kernel
theorem d_Law_replace_2 : decode method_6_code 2 = .ok (.iconst 0, 1) := by decide +kernel
theorem d_Law_replace_3 : decode method_6_code 3 = .ok (.aload_n 0, 1) := by decide +kernel
theorem d_Law_replace_4 : decode method_6_code 4 = .ok (.iload_n 1, 1) := by decide +kernel
theorem d_Law_replace_5 : decode method_6_code 5 = .ok (.iload_n 2, 1) := by decide +kernel
theorem d_Law_replace_6 : decode method_6_code 6 = .ok (.lload_n 3, 1) := by decide +kernel
theorem d_Law_replace_7 : decode method_6_code 7 = .ok (.lload 5, 2) := by decide +kernel
theorem d_Law_replace_9 : decode method_6_code 9 = .ok (.invokevirtual 28, 3) := by decide +kernel
theorem d_Law_replace_12 : decode method_6_code 12 = .ok (.ifCond .eq 7, 3) := by decide +kernel
theorem d_Law_replace_15 : decode method_6_code 15 = .ok (.lconst 1, 1) := by decide +kernel
theorem d_Law_replace_16 : decode method_6_code 16 = .ok (.goto 4, 3) := by decide +kernel
theorem d_Law_replace_19 : decode method_6_code 19 = .ok (.lconst 0, 1) := by decide +kernel
theorem d_Law_replace_20 : decode method_6_code 20 = .ok (.lastore, 1) := by decide +kernel
theorem d_Law_replace_21 : decode method_6_code 21 = .ok (.goto 11, 3) := by decide +kernel
theorem d_Law_replace_24 : decode method_6_code 24 = .ok (.astore 8, 2) := by decide +kernel
theorem d_Law_replace_26 : decode method_6_code 26 = .ok (.iconst 1, 1) := by decide +kernel
theorem d_Law_replace_27 : decode method_6_code 27 = .ok (.ireturn, 1) := by decide +kernel
theorem d_Law_replace_28 : decode method_6_code 28 = .ok (.astore 8, 2) := by decide +kernel
theorem d_Law_replace_30 : decode method_6_code 30 = .ok (.iconst 2, 1) := by decide +kernel
theorem d_Law_replace_31 : decode method_6_code 31 = .ok (.ireturn, 1) := by decide +kernel
theorem d_Law_replace_32 : decode method_6_code 32 = .ok (.iconst 0, 1) := by decide +kernel
theorem d_Law_replace_33 : decode method_6_code 33 = .ok (.ireturn, 1) := by decide +kernel
theorem d_Law_snapshot_0 : decode method_7_code 0 = .ok (.aload_n 3, 1) := by decide +kernel
theorem d_Law_snapshot_1 : decode method_7_code 1 = .ok (.iconst 0, 1) := by decide +kernel
theorem d_Law_snapshot_2 : decode method_7_code 2 = .ok (.aload_n 0, 1) := by decide +kernel
theorem d_Law_snapshot_3 : decode method_7_code 3 = .ok (.iload_n 1, 1) := by decide +kernel
theorem d_Law_snapshot_4 : decode method_7_code 4 = .ok (.iload_n 2, 1) := by decide +kernel
theorem d_Law_snapshot_5 : decode method_7_code 5 = .ok (.invokevirtual 32, 3) := by decide +kernel
theorem d_Law_snapshot_8 : decode method_7_code 8 = .ok (.i2l, 1) := by decide +kernel
theorem d_Law_snapshot_9 : decode method_7_code 9 = .ok (.lastore, 1) := by decide +kernel
theorem d_Law_snapshot_10 : decode method_7_code 10 = .ok (.goto 11, 3) := by decide +kernel
theorem d_Law_snapshot_13 : decode method_7_code 13 = .ok (.astore 4, 2) := by decide +kernel
theorem d_Law_snapshot_15 : decode method_7_code 15 = .ok (.iconst 1, 1) := by decide +kernel
theorem d_Law_snapshot_16 : decode method_7_code 16 = .ok (.ireturn, 1) := by decide +kernel
theorem d_Law_snapshot_17 : decode method_7_code 17 = .ok (.astore 4, 2) := by decide +kernel
theorem d_Law_snapshot_19 : decode method_7_code 19 = .ok (.iconst 2, 1) := by decide +kernel
theorem d_Law_snapshot_20 : decode method_7_code 20 = .ok (.ireturn, 1) := by decide +kernel
theorem d_Law_snapshot_21 : decode method_7_code 21 = .ok (.iconst 0, 1) := by decide +kernel
theorem d_Law_snapshot_22 : decode method_7_code 22 = .ok (.ireturn, 1) := by decide +kernel
theorem d_Law_drop_0 : decode method_8_code 0 = .ok (.aload_n 2, 1) := by decide +kernel
theorem d_Law_drop_1 : decode method_8_code 1 = .ok (.iconst 0, 1) := by decide +kernel
theorem d_Law_drop_2 : decode method_8_code 2 = .ok (.aload_n 0, 1) := by decide +kernel
theorem d_Law_drop_3 : decode method_8_code 3 = .ok (.iload_n 1, 1) := by decide +kernel
theorem d_Law_drop_4 : decode method_8_code 4 = .ok (.invokevirtual 36, 3) := by decide +kernel
theorem d_Law_drop_7 : decode method_8_code 7 = .ok (.i2l, 1) := by decide +kernel
theorem d_Law_drop_8 : decode method_8_code 8 = .ok (.lastore, 1) := by decide +kernel
theorem d_Law_drop_9 : decode method_8_code 9 = .ok (.goto 9, 3) := by decide +kernel
theorem d_Law_drop_12 : decode method_8_code 12 = .ok (.astore_n 3, 1) := by decide +kernel
theorem d_Law_drop_13 : decode method_8_code 13 = .ok (.iconst 1, 1) := by decide +kernel
theorem d_Law_drop_14 : decode method_8_code 14 = .ok (.ireturn, 1) := by decide +kernel
theorem d_Law_drop_15 : decode method_8_code 15 = .ok (.astore_n 3, 1) := by decide +kernel
theorem d_Law_drop_16 : decode method_8_code 16 = .ok (.iconst 2, 1) := by decide +kernel
theorem d_Law_drop_17 : decode method_8_code 17 = .ok (.ireturn, 1) := by decide +kernel
theorem d_Law_drop_18 : decode method_8_code 18 = .ok (.iconst 0, 1) := by decide +kernel
theorem d_Law_drop_19 : decode method_8_code 19 = .ok (.ireturn, 1) := by decide +kernel
theorem d_Law_iterate_0 : decode method_9_code 0 = .ok (.aload_n 2, 1) := by decide +kernel
theorem d_Law_iterate_1 : decode method_9_code 1 = .ok (.iconst 0, 1) := by decide +kernel
theorem d_Law_iterate_2 : decode method_9_code 2 = .ok (.aload_n 0, 1) := by decide +kernel
theorem d_Law_iterate_3 : decode method_9_code 3 = .ok (.iload_n 1, 1) := by decide +kernel
theorem d_Law_iterate_4 : decode method_9_code 4 = .ok (.invokevirtual 40, 3) := by decide +kernel
theorem d_Law_iterate_7 : decode method_9_code 7 = .ok (.i2l, 1) := by decide +kernel
theorem d_Law_iterate_8 : decode method_9_code 8 = .ok (.lastore, 1) := by decide +kernel
theorem d_Law_iterate_9 : decode method_9_code 9 = .ok (.goto 9, 3) := by decide +kernel
theorem d_Law_iterate_12 : decode method_9_code 12 = .ok (.astore_n 3, 1) := by decide +kernel
theorem d_Law_iterate_13 : decode method_9_code 13 = .ok (.iconst 1, 1) := by decide +kernel
theorem d_Law_iterate_14 : decode method_9_code 14 = .ok (.ireturn, 1) := by decide +kernel
theorem d_Law_iterate_15 : decode method_9_code 15 = .ok (.astore_n 3, 1) := by decide +kernel
theorem d_Law_iterate_16 : decode method_9_code 16 = .ok (.iconst 2, 1) := by decide +kernel
theorem d_Law_iterate_17 : decode method_9_code 17 = .ok (.ireturn, 1) := by decide +kernel
theorem d_Law_iterate_18 : decode method_9_code 18 = .ok (.iconst 0, 1) := by decide +kernel
theorem d_Law_iterate_19 : decode method_9_code 19 = .ok (.ireturn, 1) := by decide +kernel
theorem d_Law_next_0 : decode method_10_code 0 = .ok (.aload_n 2, 1) := by decide +kernel
theorem d_Law_next_1 : decode method_10_code 1 = .ok (.iconst 0, 1) := by decide +kernel
theorem d_Law_next_2 : decode method_10_code 2 = .ok (.aload_n 0, 1) := by decide +kernel
theorem d_Law_next_3 : decode method_10_code 3 = .ok (.iload_n 1, 1) := by decide +kernel
theorem d_Law_next_4 : decode method_10_code 4 = .ok (.invokevirtual 43, 3) := by decide +kernel
theorem d_Law_next_7 : decode method_10_code 7 = .ok (.i2l, 1) := by decide +kernel
theorem d_Law_next_8 : decode method_10_code 8 = .ok (.lastore, 1) := by decide +kernel
theorem d_Law_next_9 : decode method_10_code 9 = .ok (.goto 9, 3) := by decide +kernel
theorem d_Law_next_12 : decode method_10_code 12 = .ok (.astore_n 3, 1) := by decide +kernel
theorem d_Law_next_13 : decode method_10_code 13 = .ok (.iconst 1, 1) := by decide +kernel
theorem d_Law_next_14 : decode method_10_code 14 = .ok (.ireturn, 1) := by decide +kernel
theorem d_Law_next_15 : decode method_10_code 15 = .ok (.astore_n 3, 1) := by decide +kernel
theorem d_Law_next_16 : decode method_10_code 16 = .ok (.iconst 2, 1) := by decide +kernel
theorem d_Law_next_17 : decode method_10_code 17 = .ok (.ireturn, 1) := by decide +kernel
theorem d_Law_next_18 : decode method_10_code 18 = .ok (.iconst 0, 1) := by decide +kernel
theorem d_Law_next_19 : decode method_10_code 19 = .ok (.ireturn, 1) := by decide +kernel
theorem d_Law_measure_0 : decode method_11_code 0 = .ok (.aload_n 3, 1) := by decide +kernel
theorem d_Law_measure_1 : decode method_11_code 1 = .ok (.iconst 0, 1) := by decide +kernel
theorem d_Law_measure_2 : decode method_11_code 2 = .ok (.aload_n 0, 1) := by decide +kernel
theorem d_Law_measure_3 : decode method_11_code 3 = .ok (.iload_n 1, 1) := by decide +kernel
theorem d_Law_measure_4 : decode method_11_code 4 = .ok (.iload_n 2, 1) := by decide +kernel
theorem d_Law_measure_5 : decode method_11_code 5 = .ok (.invokevirtual 46, 3) := by decide +kernel
theorem d_Law_measure_8 : decode method_11_code 8 = .ok (.i2l, 1) := by decide +kernel
theorem d_Law_measure_9 : decode method_11_code 9 = .ok (.lastore, 1) := by decide +kernel
theorem d_Law_measure_10 : decode method_11_code 10 = .ok (.goto 7, 3) := by decide +kernel
theorem d_Law_measure_13 : decode method_11_code 13 = .ok (.astore 4, 2) := by decide +kernel
theorem d_Law_measure_15 : decode method_11_code 15 = .ok (.iconst 1, 1) := by decide +kernel
theorem d_Law_measure_16 : decode method_11_code 16 = .ok (.ireturn, 1) := by decide +kernel
theorem d_Law_measure_17 : decode method_11_code 17 = .ok (.iconst 0, 1) := by decide +kernel
theorem d_Law_measure_18 : decode method_11_code 18 = .ok (.ireturn, 1) := by decide +kernel
theorem d_Law_common_0 : decode method_12_code 0 = .ok (.aload_n 3, 1) := by decide +kernel
theorem d_Law_common_1 : decode method_12_code 1 = .ok (.iconst 0, 1) := by decide +kernel
theorem d_Law_common_2 : decode method_12_code 2 = .ok (.aload_n 0, 1) := by decide +kernel
theorem d_Law_common_3 : decode method_12_code 3 = .ok (.iload_n 1, 1) := by decide +kernel
theorem d_Law_common_4 : decode method_12_code 4 = .ok (.iload_n 2, 1) := by decide +kernel
theorem d_Law_common_5 : decode method_12_code 5 = .ok (.invokevirtual 50, 3) := by decide +kernel
theorem d_Law_common_8 : decode method_12_code 8 = .ok (.i2l, 1) := by decide +kernel
theorem d_Law_common_9 : decode method_12_code 9 = .ok (.lastore, 1) := by decide +kernel
theorem d_Law_common_10 : decode method_12_code 10 = .ok (.goto 7, 3) := by decide +kernel
theorem d_Law_common_13 : decode method_12_code 13 = .ok (.astore 4, 2) := by decide +kernel
theorem d_Law_common_15 : decode method_12_code 15 = .ok (.iconst 1, 1) := by decide +kernel
theorem d_Law_common_16 : decode method_12_code 16 = .ok (.ireturn, 1) := by decide +kernel
theorem d_Law_common_17 : decode method_12_code 17 = .ok (.iconst 0, 1) := by decide +kernel
theorem d_Law_common_18 : decode method_12_code 18 = .ok (.ireturn, 1) := by decide +kernel
theorem d_Law_generation_0 : decode method_13_code 0 = .ok (.aload_n 2, 1) := by decide +kernel
theorem d_Law_generation_1 : decode method_13_code 1 = .ok (.iconst 0, 1) := by decide +kernel
theorem d_Law_generation_2 : decode method_13_code 2 = .ok (.aload_n 0, 1) := by decide +kernel
theorem d_Law_generation_3 : decode method_13_code 3 = .ok (.iload_n 1, 1) := by decide +kernel
theorem d_Law_generation_4 : decode method_13_code 4 = .ok (.invokevirtual 53, 3) := by decide +kernel
theorem d_Law_generation_7 : decode method_13_code 7 = .ok (.i2l, 1) := by decide +kernel
theorem d_Law_generation_8 : decode method_13_code 8 = .ok (.lastore, 1) := by decide +kernel
theorem d_Law_generation_9 : decode method_13_code 9 = .ok (.goto 6, 3) := by decide +kernel
theorem d_Law_generation_12 : decode method_13_code 12 = .ok (.astore_n 3, 1) := by decide +kernel
theorem d_Law_generation_13 : decode method_13_code 13 = .ok (.iconst 1, 1) := by decide +kernel
theorem d_Law_generation_14 : decode method_13_code 14 = .ok (.ireturn, 1) := by decide +kernel
theorem d_Law_generation_15 : decode method_13_code 15 = .ok (.iconst 0, 1) := by decide +kernel
theorem d_Law_generation_16 : decode method_13_code 16 = .ok (.ireturn, 1) := by decide +kernel

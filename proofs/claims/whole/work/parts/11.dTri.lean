theorem d_Tri_init_0 : decode prog_1_method_1_code 0 = .ok (.aload_n 0, 1) := by decide +kernel
theorem d_Tri_init_1 : decode prog_1_method_1_code 1 = .ok (.invokespecial 1, 3) := by decide +kernel
theorem d_Tri_init_4 : decode prog_1_method_1_code 4 = .ok (.aload_n 0, 1) := by decide +kernel
theorem d_Tri_init_5 : decode prog_1_method_1_code 5 = .ok (.bipush 6, 2) := by decide +kernel
theorem d_Tri_init_7 : decode prog_1_method_1_code 7 = .ok (.anewarray 9, 3) := by decide +kernel
theorem d_Tri_init_10 : decode prog_1_method_1_code 10 = .ok (.putfield 11, 3) := by decide +kernel
theorem d_Tri_init_13 : decode prog_1_method_1_code 13 = .ok (.aload_n 0, 1) := by decide +kernel
theorem d_Tri_init_14 : decode prog_1_method_1_code 14 = .ok (.iconst 4, 1) := by decide +kernel
theorem d_Tri_init_15 : decode prog_1_method_1_code 15 = .ok (.anewarray 15, 3) := by decide +kernel
theorem d_Tri_init_18 : decode prog_1_method_1_code 18 = .ok (.putfield 17, 3) := by decide +kernel
theorem d_Tri_init_21 : decode prog_1_method_1_code 21 = .ok (.aload_n 0, 1) := by decide +kernel
theorem d_Tri_init_22 : decode prog_1_method_1_code 22 = .ok (.iconst 1, 1) := by decide +kernel
theorem d_Tri_init_23 : decode prog_1_method_1_code 23 = .ok (.putfield 21, 3) := by decide +kernel
theorem d_Tri_init_26 : decode prog_1_method_1_code 26 = .ok (.aload_n 0, 1) := by decide +kernel
theorem d_Tri_init_27 : decode prog_1_method_1_code 27 = .ok (.getfield 11, 3) := by decide +kernel
theorem d_Tri_init_30 : decode prog_1_method_1_code 30 = .ok (.iconst 0, 1) := by decide +kernel
theorem d_Tri_init_31 : decode prog_1_method_1_code 31 = .ok (.new 9, 3) := by decide +kernel
theorem d_Tri_init_34 : decode prog_1_method_1_code 34 = .ok (.dup, 1) := by decide +kernel
theorem d_Tri_init_35 : decode prog_1_method_1_code 35 = .ok (.new 25, 3) := by decide +kernel
theorem d_Tri_init_38 : decode prog_1_method_1_code 38 = .ok (.dup, 1) := by decide +kernel
theorem d_Tri_init_39 : decode prog_1_method_1_code 39 = .ok (.aload_n 0, 1) := by decide +kernel
theorem d_Tri_init_40 : decode prog_1_method_1_code 40 = .ok (.getfield 21, 3) := by decide +kernel
theorem d_Tri_init_43 : decode prog_1_method_1_code 43 = .ok (.iconst 0, 1) := by decide +kernel
theorem d_Tri_init_44 : decode prog_1_method_1_code 44 = .ok (.invokespecial 27, 3) := by decide +kernel
theorem d_Tri_init_47 : decode prog_1_method_1_code 47 = .ok (.aload_n 0, 1) := by decide +kernel
theorem d_Tri_init_48 : decode prog_1_method_1_code 48 = .ok (.getfield 21, 3) := by decide +kernel
theorem d_Tri_init_51 : decode prog_1_method_1_code 51 = .ok (.iconst 0, 1) := by decide +kernel
theorem d_Tri_init_52 : decode prog_1_method_1_code 52 = .ok (.invokespecial 30, 3) := by decide +kernel
theorem d_Tri_init_55 : decode prog_1_method_1_code 55 = .ok (.aastore, 1) := by decide +kernel
theorem d_Tri_init_56 : decode prog_1_method_1_code 56 = .ok (.return_, 1) := by decide +kernel
theorem d_Tri_put_0 : decode prog_1_method_2_code 0 = .ok (.aload_n 0, 1) := by decide +kernel
theorem d_Tri_put_1 : decode prog_1_method_2_code 1 = .ok (.iload_n 1, 1) := by decide +kernel
theorem d_Tri_put_2 : decode prog_1_method_2_code 2 = .ok (.invokevirtual 33, 3) := by decide +kernel
theorem d_Tri_put_5 : decode prog_1_method_2_code 5 = .ok (.astore 5, 2) := by decide +kernel
theorem d_Tri_put_7 : decode prog_1_method_2_code 7 = .ok (.aload 5, 2) := by decide +kernel
theorem d_Tri_put_9 : decode prog_1_method_2_code 9 = .ok (.getfield 37, 3) := by decide +kernel
theorem d_Tri_put_12 : decode prog_1_method_2_code 12 = .ok (.iload_n 2, 1) := by decide +kernel
theorem d_Tri_put_13 : decode prog_1_method_2_code 13 = .ok (.invokestatic 41, 3) := by decide +kernel
theorem d_Tri_put_16 : decode prog_1_method_2_code 16 = .ok (.ifnonnull 7, 3) := by decide +kernel
theorem d_Tri_put_19 : decode prog_1_method_2_code 19 = .ok (.iconst 1, 1) := by decide +kernel
theorem d_Tri_put_20 : decode prog_1_method_2_code 20 = .ok (.goto 4, 3) := by decide +kernel
theorem d_Tri_put_23 : decode prog_1_method_2_code 23 = .ok (.iconst 0, 1) := by decide +kernel
theorem d_Tri_put_24 : decode prog_1_method_2_code 24 = .ok (.istore 6, 2) := by decide +kernel
theorem d_Tri_put_26 : decode prog_1_method_2_code 26 = .ok (.iload 6, 2) := by decide +kernel
theorem d_Tri_put_28 : decode prog_1_method_2_code 28 = .ok (.ifCond .eq 23, 3) := by decide +kernel
theorem d_Tri_put_31 : decode prog_1_method_2_code 31 = .ok (.aload 5, 2) := by decide +kernel
theorem d_Tri_put_33 : decode prog_1_method_2_code 33 = .ok (.getfield 37, 3) := by decide +kernel
theorem d_Tri_put_36 : decode prog_1_method_2_code 36 = .ok (.iload_n 2, 1) := by decide +kernel
theorem d_Tri_put_37 : decode prog_1_method_2_code 37 = .ok (.invokestatic 45, 3) := by decide +kernel
theorem d_Tri_put_40 : decode prog_1_method_2_code 40 = .ok (.ifCond .ne 11, 3) := by decide +kernel
theorem d_Tri_put_43 : decode prog_1_method_2_code 43 = .ok (.new 49, 3) := by decide +kernel
theorem d_Tri_put_46 : decode prog_1_method_2_code 46 = .ok (.dup, 1) := by decide +kernel
theorem d_Tri_put_47 : decode prog_1_method_2_code 47 = .ok (.invokespecial 51, 3) := by decide +kernel
theorem d_Tri_put_50 : decode prog_1_method_2_code 50 = .ok (.athrow, 1) := by decide +kernel
theorem d_Tri_put_51 : decode prog_1_method_2_code 51 = .ok (.aload_n 0, 1) := by decide +kernel
theorem d_Tri_put_52 : decode prog_1_method_2_code 52 = .ok (.aload 5, 2) := by decide +kernel
theorem d_Tri_put_54 : decode prog_1_method_2_code 54 = .ok (.new 52, 3) := by decide +kernel
theorem d_Tri_put_57 : decode prog_1_method_2_code 57 = .ok (.dup, 1) := by decide +kernel
theorem d_Tri_put_58 : decode prog_1_method_2_code 58 = .ok (.iload_n 2, 1) := by decide +kernel
theorem d_Tri_put_59 : decode prog_1_method_2_code 59 = .ok (.lload_n 3, 1) := by decide +kernel
theorem d_Tri_put_60 : decode prog_1_method_2_code 60 = .ok (.invokespecial 54, 3) := by decide +kernel
theorem d_Tri_put_63 : decode prog_1_method_2_code 63 = .ok (.invokevirtual 57, 3) := by decide +kernel
theorem d_Tri_put_66 : decode prog_1_method_2_code 66 = .ok (.iload 6, 2) := by decide +kernel
theorem d_Tri_put_68 : decode prog_1_method_2_code 68 = .ok (.ireturn, 1) := by decide +kernel
theorem d_Tri_get_0 : decode prog_1_method_3_code 0 = .ok (.aload_n 0, 1) := by decide +kernel
theorem d_Tri_get_1 : decode prog_1_method_3_code 1 = .ok (.iload_n 1, 1) := by decide +kernel
theorem d_Tri_get_2 : decode prog_1_method_3_code 2 = .ok (.invokevirtual 61, 3) := by decide +kernel
theorem d_Tri_get_5 : decode prog_1_method_3_code 5 = .ok (.iload_n 2, 1) := by decide +kernel
theorem d_Tri_get_6 : decode prog_1_method_3_code 6 = .ok (.invokestatic 64, 3) := by decide +kernel
theorem d_Tri_get_9 : decode prog_1_method_3_code 9 = .ok (.getfield 68, 3) := by decide +kernel
theorem d_Tri_get_12 : decode prog_1_method_3_code 12 = .ok (.lreturn, 1) := by decide +kernel
theorem d_Tri_remove_0 : decode prog_1_method_4_code 0 = .ok (.aload_n 0, 1) := by decide +kernel
theorem d_Tri_remove_1 : decode prog_1_method_4_code 1 = .ok (.iload_n 1, 1) := by decide +kernel
theorem d_Tri_remove_2 : decode prog_1_method_4_code 2 = .ok (.invokevirtual 33, 3) := by decide +kernel
theorem d_Tri_remove_5 : decode prog_1_method_4_code 5 = .ok (.astore_n 3, 1) := by decide +kernel
theorem d_Tri_remove_6 : decode prog_1_method_4_code 6 = .ok (.aload_n 3, 1) := by decide +kernel
theorem d_Tri_remove_7 : decode prog_1_method_4_code 7 = .ok (.iload_n 2, 1) := by decide +kernel
theorem d_Tri_remove_8 : decode prog_1_method_4_code 8 = .ok (.invokestatic 64, 3) := by decide +kernel
theorem d_Tri_remove_11 : decode prog_1_method_4_code 11 = .ok (.astore 4, 2) := by decide +kernel
theorem d_Tri_remove_13 : decode prog_1_method_4_code 13 = .ok (.aload_n 0, 1) := by decide +kernel
theorem d_Tri_remove_14 : decode prog_1_method_4_code 14 = .ok (.aload_n 3, 1) := by decide +kernel
theorem d_Tri_remove_15 : decode prog_1_method_4_code 15 = .ok (.iload_n 2, 1) := by decide +kernel
theorem d_Tri_remove_16 : decode prog_1_method_4_code 16 = .ok (.invokestatic 72, 3) := by decide +kernel
theorem d_Tri_remove_19 : decode prog_1_method_4_code 19 = .ok (.putfield 76, 3) := by decide +kernel
theorem d_Tri_remove_22 : decode prog_1_method_4_code 22 = .ok (.aload_n 3, 1) := by decide +kernel
theorem d_Tri_remove_23 : decode prog_1_method_4_code 23 = .ok (.getfield 37, 3) := by decide +kernel
theorem d_Tri_remove_26 : decode prog_1_method_4_code 26 = .ok (.iconst 0, 1) := by decide +kernel
theorem d_Tri_remove_27 : decode prog_1_method_4_code 27 = .ok (.iload_n 2, 1) := by decide +kernel
theorem d_Tri_remove_28 : decode prog_1_method_4_code 28 = .ok (.invokestatic 79, 3) := by decide +kernel
theorem d_Tri_remove_31 : decode prog_1_method_4_code 31 = .ok (.aload 4, 2) := by decide +kernel
theorem d_Tri_remove_33 : decode prog_1_method_4_code 33 = .ok (.getfield 68, 3) := by decide +kernel
theorem d_Tri_remove_36 : decode prog_1_method_4_code 36 = .ok (.lreturn, 1) := by decide +kernel
theorem d_Tri_replace_0 : decode prog_1_method_5_code 0 = .ok (.aload_n 0, 1) := by decide +kernel
theorem d_Tri_replace_1 : decode prog_1_method_5_code 1 = .ok (.iload_n 1, 1) := by decide +kernel
theorem d_Tri_replace_2 : decode prog_1_method_5_code 2 = .ok (.invokevirtual 33, 3) := by decide +kernel
theorem d_Tri_replace_5 : decode prog_1_method_5_code 5 = .ok (.astore 7, 2) := by decide +kernel
theorem d_Tri_replace_7 : decode prog_1_method_5_code 7 = .ok (.aload 7, 2) := by decide +kernel
theorem d_Tri_replace_9 : decode prog_1_method_5_code 9 = .ok (.getfield 37, 3) := by decide +kernel
theorem d_Tri_replace_12 : decode prog_1_method_5_code 12 = .ok (.iload_n 2, 1) := by decide +kernel
theorem d_Tri_replace_13 : decode prog_1_method_5_code 13 = .ok (.invokestatic 41, 3) := by decide +kernel
theorem d_Tri_replace_16 : decode prog_1_method_5_code 16 = .ok (.astore 8, 2) := by decide +kernel
theorem d_Tri_replace_18 : decode prog_1_method_5_code 18 = .ok (.aload 8, 2) := by decide +kernel
theorem d_Tri_replace_20 : decode prog_1_method_5_code 20 = .ok (.ifnull 13, 3) := by decide +kernel
theorem d_Tri_replace_23 : decode prog_1_method_5_code 23 = .ok (.aload 8, 2) := by decide +kernel
theorem d_Tri_replace_25 : decode prog_1_method_5_code 25 = .ok (.getfield 68, 3) := by decide +kernel
theorem d_Tri_replace_28 : decode prog_1_method_5_code 28 = .ok (.lload_n 3, 1) := by decide +kernel
theorem d_Tri_replace_29 : decode prog_1_method_5_code 29 = .ok (.lcmp, 1) := by decide +kernel
theorem d_Tri_replace_30 : decode prog_1_method_5_code 30 = .ok (.ifCond .eq 10, 3) := by decide +kernel
theorem d_Tri_replace_33 : decode prog_1_method_5_code 33 = .ok (.aload_n 0, 1) := by decide +kernel
theorem d_Tri_replace_34 : decode prog_1_method_5_code 34 = .ok (.iconst 0, 1) := by decide +kernel
theorem d_Tri_replace_35 : decode prog_1_method_5_code 35 = .ok (.putfield 76, 3) := by decide +kernel
theorem d_Tri_replace_38 : decode prog_1_method_5_code 38 = .ok (.iconst 0, 1) := by decide +kernel
theorem d_Tri_replace_39 : decode prog_1_method_5_code 39 = .ok (.ireturn, 1) := by decide +kernel
theorem d_Tri_replace_40 : decode prog_1_method_5_code 40 = .ok (.aload_n 0, 1) := by decide +kernel
theorem d_Tri_replace_41 : decode prog_1_method_5_code 41 = .ok (.aload 7, 2) := by decide +kernel
theorem d_Tri_replace_43 : decode prog_1_method_5_code 43 = .ok (.new 52, 3) := by decide +kernel
theorem d_Tri_replace_46 : decode prog_1_method_5_code 46 = .ok (.dup, 1) := by decide +kernel
theorem d_Tri_replace_47 : decode prog_1_method_5_code 47 = .ok (.iload_n 2, 1) := by decide +kernel
theorem d_Tri_replace_48 : decode prog_1_method_5_code 48 = .ok (.lload 5, 2) := by decide +kernel
theorem d_Tri_replace_50 : decode prog_1_method_5_code 50 = .ok (.invokespecial 54, 3) := by decide +kernel
theorem d_Tri_replace_53 : decode prog_1_method_5_code 53 = .ok (.invokevirtual 57, 3) := by decide +kernel
theorem d_Tri_replace_56 : decode prog_1_method_5_code 56 = .ok (.iconst 1, 1) := by decide +kernel
theorem d_Tri_replace_57 : decode prog_1_method_5_code 57 = .ok (.ireturn, 1) := by decide +kernel
theorem d_Tri_snapshot_0 : decode prog_1_method_6_code 0 = .ok (.aload_n 0, 1) := by decide +kernel
theorem d_Tri_snapshot_1 : decode prog_1_method_6_code 1 = .ok (.iload_n 1, 1) := by decide +kernel
theorem d_Tri_snapshot_2 : decode prog_1_method_6_code 2 = .ok (.invokevirtual 61, 3) := by decide +kernel
theorem d_Tri_snapshot_5 : decode prog_1_method_6_code 5 = .ok (.astore_n 3, 1) := by decide +kernel
theorem d_Tri_snapshot_6 : decode prog_1_method_6_code 6 = .ok (.aload_n 0, 1) := by decide +kernel
theorem d_Tri_snapshot_7 : decode prog_1_method_6_code 7 = .ok (.invokevirtual 83, 3) := by decide +kernel
theorem d_Tri_snapshot_10 : decode prog_1_method_6_code 10 = .ok (.istore 4, 2) := by decide +kernel
theorem d_Tri_snapshot_12 : decode prog_1_method_6_code 12 = .ok (.iload 4, 2) := by decide +kernel
theorem d_Tri_snapshot_14 : decode prog_1_method_6_code 14 = .ok (.iconst (-1), 1) := by decide +kernel
theorem d_Tri_snapshot_15 : decode prog_1_method_6_code 15 = .ok (.if_icmp .ne 11, 3) := by decide +kernel
theorem d_Tri_snapshot_18 : decode prog_1_method_6_code 18 = .ok (.new 49, 3) := by decide +kernel
theorem d_Tri_snapshot_21 : decode prog_1_method_6_code 21 = .ok (.dup, 1) := by decide +kernel
theorem d_Tri_snapshot_22 : decode prog_1_method_6_code 22 = .ok (.invokespecial 51, 3) := by decide +kernel
theorem d_Tri_snapshot_25 : decode prog_1_method_6_code 25 = .ok (.athrow, 1) := by decide +kernel
theorem d_Tri_snapshot_26 : decode prog_1_method_6_code 26 = .ok (.aload_n 3, 1) := by decide +kernel
theorem d_Tri_snapshot_27 : decode prog_1_method_6_code 27 = .ok (.aload_n 0, 1) := by decide +kernel
theorem d_Tri_snapshot_28 : decode prog_1_method_6_code 28 = .ok (.invokevirtual 87, 3) := by decide +kernel
theorem d_Tri_snapshot_31 : decode prog_1_method_6_code 31 = .ok (.putfield 90, 3) := by decide +kernel
theorem d_Tri_snapshot_34 : decode prog_1_method_6_code 34 = .ok (.aload_n 0, 1) := by decide +kernel
theorem d_Tri_snapshot_35 : decode prog_1_method_6_code 35 = .ok (.getfield 11, 3) := by decide +kernel
theorem d_Tri_snapshot_38 : decode prog_1_method_6_code 38 = .ok (.iload 4, 2) := by decide +kernel
theorem d_Tri_snapshot_40 : decode prog_1_method_6_code 40 = .ok (.new 9, 3) := by decide +kernel
theorem d_Tri_snapshot_43 : decode prog_1_method_6_code 43 = .ok (.dup, 1) := by decide +kernel
theorem d_Tri_snapshot_44 : decode prog_1_method_6_code 44 = .ok (.aload_n 3, 1) := by decide +kernel
theorem d_Tri_snapshot_45 : decode prog_1_method_6_code 45 = .ok (.getfield 37, 3) := by decide +kernel
theorem d_Tri_snapshot_48 : decode prog_1_method_6_code 48 = .ok (.aload_n 0, 1) := by decide +kernel
theorem d_Tri_snapshot_49 : decode prog_1_method_6_code 49 = .ok (.invokevirtual 87, 3) := by decide +kernel
theorem d_Tri_snapshot_52 : decode prog_1_method_6_code 52 = .ok (.iload_n 2, 1) := by decide +kernel
theorem d_Tri_snapshot_53 : decode prog_1_method_6_code 53 = .ok (.invokespecial 30, 3) := by decide +kernel
theorem d_Tri_snapshot_56 : decode prog_1_method_6_code 56 = .ok (.aastore, 1) := by decide +kernel
theorem d_Tri_snapshot_57 : decode prog_1_method_6_code 57 = .ok (.iload 4, 2) := by decide +kernel
theorem d_Tri_snapshot_59 : decode prog_1_method_6_code 59 = .ok (.ireturn, 1) := by decide +kernel
theorem d_Tri_drop_0 : decode prog_1_method_7_code 0 = .ok (.aload_n 0, 1) := by decide +kernel
theorem d_Tri_drop_1 : decode prog_1_method_7_code 1 = .ok (.iload_n 1, 1) := by decide +kernel
theorem d_Tri_drop_2 : decode prog_1_method_7_code 2 = .ok (.invokevirtual 61, 3) := by decide +kernel
theorem d_Tri_drop_5 : decode prog_1_method_7_code 5 = .ok (.astore_n 2, 1) := by decide +kernel
theorem d_Tri_drop_6 : decode prog_1_method_7_code 6 = .ok (.iload_n 1, 1) := by decide +kernel
theorem d_Tri_drop_7 : decode prog_1_method_7_code 7 = .ok (.ifCond .ne 11, 3) := by decide +kernel
theorem d_Tri_drop_10 : decode prog_1_method_7_code 10 = .ok (.new 49, 3) := by decide +kernel
theorem d_Tri_drop_13 : decode prog_1_method_7_code 13 = .ok (.dup, 1) := by decide +kernel
theorem d_Tri_drop_14 : decode prog_1_method_7_code 14 = .ok (.invokespecial 51, 3) := by decide +kernel
theorem d_Tri_drop_17 : decode prog_1_method_7_code 17 = .ok (.athrow, 1) := by decide +kernel
theorem d_Tri_drop_18 : decode prog_1_method_7_code 18 = .ok (.aload_n 0, 1) := by decide +kernel
theorem d_Tri_drop_19 : decode prog_1_method_7_code 19 = .ok (.getfield 11, 3) := by decide +kernel
theorem d_Tri_drop_22 : decode prog_1_method_7_code 22 = .ok (.iload_n 1, 1) := by decide +kernel
theorem d_Tri_drop_23 : decode prog_1_method_7_code 23 = .ok (.aconst_null, 1) := by decide +kernel
theorem d_Tri_drop_24 : decode prog_1_method_7_code 24 = .ok (.aastore, 1) := by decide +kernel
theorem d_Tri_drop_25 : decode prog_1_method_7_code 25 = .ok (.aload_n 2, 1) := by decide +kernel
theorem d_Tri_drop_26 : decode prog_1_method_7_code 26 = .ok (.getfield 37, 3) := by decide +kernel
theorem d_Tri_drop_29 : decode prog_1_method_7_code 29 = .ok (.invokestatic 93, 3) := by decide +kernel
theorem d_Tri_drop_32 : decode prog_1_method_7_code 32 = .ok (.ireturn, 1) := by decide +kernel
theorem d_Tri_iterate_0 : decode prog_1_method_8_code 0 = .ok (.aload_n 0, 1) := by decide +kernel
theorem d_Tri_iterate_1 : decode prog_1_method_8_code 1 = .ok (.iload_n 1, 1) := by decide +kernel
theorem d_Tri_iterate_2 : decode prog_1_method_8_code 2 = .ok (.invokevirtual 61, 3) := by decide +kernel
theorem d_Tri_iterate_5 : decode prog_1_method_8_code 5 = .ok (.astore_n 2, 1) := by decide +kernel
theorem d_Tri_iterate_6 : decode prog_1_method_8_code 6 = .ok (.aload_n 0, 1) := by decide +kernel
theorem d_Tri_iterate_7 : decode prog_1_method_8_code 7 = .ok (.invokevirtual 97, 3) := by decide +kernel
theorem d_Tri_iterate_10 : decode prog_1_method_8_code 10 = .ok (.istore_n 3, 1) := by decide +kernel
theorem d_Tri_iterate_11 : decode prog_1_method_8_code 11 = .ok (.iload_n 3, 1) := by decide +kernel
theorem d_Tri_iterate_12 : decode prog_1_method_8_code 12 = .ok (.iconst (-1), 1) := by decide +kernel
theorem d_Tri_iterate_13 : decode prog_1_method_8_code 13 = .ok (.if_icmp .ne 11, 3) := by decide +kernel
theorem d_Tri_iterate_16 : decode prog_1_method_8_code 16 = .ok (.new 49, 3) := by decide +kernel
theorem d_Tri_iterate_19 : decode prog_1_method_8_code 19 = .ok (.dup, 1) := by decide +kernel
theorem d_Tri_iterate_20 : decode prog_1_method_8_code 20 = .ok (.invokespecial 51, 3) := by decide +kernel
theorem d_Tri_iterate_23 : decode prog_1_method_8_code 23 = .ok (.athrow, 1) := by decide +kernel
theorem d_Tri_iterate_24 : decode prog_1_method_8_code 24 = .ok (.aload_n 2, 1) := by decide +kernel
theorem d_Tri_iterate_25 : decode prog_1_method_8_code 25 = .ok (.aload_n 0, 1) := by decide +kernel
theorem d_Tri_iterate_26 : decode prog_1_method_8_code 26 = .ok (.invokevirtual 87, 3) := by decide +kernel
theorem d_Tri_iterate_29 : decode prog_1_method_8_code 29 = .ok (.putfield 90, 3) := by decide +kernel
theorem d_Tri_iterate_32 : decode prog_1_method_8_code 32 = .ok (.aload_n 0, 1) := by decide +kernel
theorem d_Tri_iterate_33 : decode prog_1_method_8_code 33 = .ok (.getfield 17, 3) := by decide +kernel
theorem d_Tri_iterate_36 : decode prog_1_method_8_code 36 = .ok (.iload_n 3, 1) := by decide +kernel
theorem d_Tri_iterate_37 : decode prog_1_method_8_code 37 = .ok (.new 15, 3) := by decide +kernel
theorem d_Tri_iterate_40 : decode prog_1_method_8_code 40 = .ok (.dup, 1) := by decide +kernel
theorem d_Tri_iterate_41 : decode prog_1_method_8_code 41 = .ok (.aload_n 2, 1) := by decide +kernel
theorem d_Tri_iterate_42 : decode prog_1_method_8_code 42 = .ok (.getfield 37, 3) := by decide +kernel
theorem d_Tri_iterate_45 : decode prog_1_method_8_code 45 = .ok (.invokespecial 100, 3) := by decide +kernel
theorem d_Tri_iterate_48 : decode prog_1_method_8_code 48 = .ok (.aastore, 1) := by decide +kernel
theorem d_Tri_iterate_49 : decode prog_1_method_8_code 49 = .ok (.iload_n 3, 1) := by decide +kernel
theorem d_Tri_iterate_50 : decode prog_1_method_8_code 50 = .ok (.ireturn, 1) := by decide +kernel
theorem d_Tri_next_0 : decode prog_1_method_9_code 0 = .ok (.aload_n 0, 1) := by decide +kernel
theorem d_Tri_next_1 : decode prog_1_method_9_code 1 = .ok (.iload_n 1, 1) := by decide +kernel
theorem d_Tri_next_2 : decode prog_1_method_9_code 2 = .ok (.invokevirtual 103, 3) := by decide +kernel
theorem d_Tri_next_5 : decode prog_1_method_9_code 5 = .ok (.invokevirtual 107, 3) := by decide +kernel
theorem d_Tri_next_8 : decode prog_1_method_9_code 8 = .ok (.astore_n 2, 1) := by decide +kernel
theorem d_Tri_next_9 : decode prog_1_method_9_code 9 = .ok (.aload_n 2, 1) := by decide +kernel
theorem d_Tri_next_10 : decode prog_1_method_9_code 10 = .ok (.ifnonnull 18, 3) := by decide +kernel
theorem d_Tri_next_13 : decode prog_1_method_9_code 13 = .ok (.aload_n 0, 1) := by decide +kernel
theorem d_Tri_next_14 : decode prog_1_method_9_code 14 = .ok (.getfield 17, 3) := by decide +kernel
theorem d_Tri_next_17 : decode prog_1_method_9_code 17 = .ok (.iload_n 1, 1) := by decide +kernel
theorem d_Tri_next_18 : decode prog_1_method_9_code 18 = .ok (.aconst_null, 1) := by decide +kernel
theorem d_Tri_next_19 : decode prog_1_method_9_code 19 = .ok (.aastore, 1) := by decide +kernel
theorem d_Tri_next_20 : decode prog_1_method_9_code 20 = .ok (.new 111, 3) := by decide +kernel
theorem d_Tri_next_23 : decode prog_1_method_9_code 23 = .ok (.dup, 1) := by decide +kernel
theorem d_Tri_next_24 : decode prog_1_method_9_code 24 = .ok (.invokespecial 113, 3) := by decide +kernel
theorem d_Tri_next_27 : decode prog_1_method_9_code 27 = .ok (.athrow, 1) := by decide +kernel
theorem d_Tri_next_28 : decode prog_1_method_9_code 28 = .ok (.aload_n 0, 1) := by decide +kernel
theorem d_Tri_next_29 : decode prog_1_method_9_code 29 = .ok (.aload_n 2, 1) := by decide +kernel
theorem d_Tri_next_30 : decode prog_1_method_9_code 30 = .ok (.getfield 68, 3) := by decide +kernel
theorem d_Tri_next_33 : decode prog_1_method_9_code 33 = .ok (.putfield 114, 3) := by decide +kernel
theorem d_Tri_next_36 : decode prog_1_method_9_code 36 = .ok (.aload_n 2, 1) := by decide +kernel
theorem d_Tri_next_37 : decode prog_1_method_9_code 37 = .ok (.getfield 117, 3) := by decide +kernel
theorem d_Tri_next_40 : decode prog_1_method_9_code 40 = .ok (.ireturn, 1) := by decide +kernel
theorem d_Tri_value_0 : decode prog_1_method_10_code 0 = .ok (.aload_n 0, 1) := by decide +kernel
theorem d_Tri_value_1 : decode prog_1_method_10_code 1 = .ok (.getfield 114, 3) := by decide +kernel
theorem d_Tri_value_4 : decode prog_1_method_10_code 4 = .ok (.lreturn, 1) := by decide +kernel
theorem d_Tri_copied_0 : decode prog_1_method_11_code 0 = .ok (.aload_n 0, 1) := by decide +kernel
theorem d_Tri_copied_1 : decode prog_1_method_11_code 1 = .ok (.getfield 76, 3) := by decide +kernel
theorem d_Tri_copied_4 : decode prog_1_method_11_code 4 = .ok (.ireturn, 1) := by decide +kernel
theorem d_Tri_measure_0 : decode prog_1_method_12_code 0 = .ok (.aload_n 0, 1) := by decide +kernel
theorem d_Tri_measure_1 : decode prog_1_method_12_code 1 = .ok (.iload_n 1, 1) := by decide +kernel
theorem d_Tri_measure_2 : decode prog_1_method_12_code 2 = .ok (.invokevirtual 61, 3) := by decide +kernel
theorem d_Tri_measure_5 : decode prog_1_method_12_code 5 = .ok (.astore_n 3, 1) := by decide +kernel
theorem d_Tri_measure_6 : decode prog_1_method_12_code 6 = .ok (.new 120, 3) := by decide +kernel
theorem d_Tri_measure_9 : decode prog_1_method_12_code 9 = .ok (.dup, 1) := by decide +kernel
theorem d_Tri_measure_10 : decode prog_1_method_12_code 10 = .ok (.aload_n 3, 1) := by decide +kernel
theorem d_Tri_measure_11 : decode prog_1_method_12_code 11 = .ok (.getfield 90, 3) := by decide +kernel
theorem d_Tri_measure_14 : decode prog_1_method_12_code 14 = .ok (.invokespecial 122, 3) := by decide +kernel
theorem d_Tri_measure_17 : decode prog_1_method_12_code 17 = .ok (.astore 4, 2) := by decide +kernel
theorem d_Tri_measure_19 : decode prog_1_method_12_code 19 = .ok (.aload_n 3, 1) := by decide +kernel
theorem d_Tri_measure_20 : decode prog_1_method_12_code 20 = .ok (.getfield 37, 3) := by decide +kernel
theorem d_Tri_measure_23 : decode prog_1_method_12_code 23 = .ok (.iconst 0, 1) := by decide +kernel
theorem d_Tri_measure_24 : decode prog_1_method_12_code 24 = .ok (.aload 4, 2) := by decide +kernel
theorem d_Tri_measure_26 : decode prog_1_method_12_code 26 = .ok (.invokestatic 125, 3) := by decide +kernel
theorem d_Tri_measure_29 : decode prog_1_method_12_code 29 = .ok (.iload_n 2, 1) := by decide +kernel
theorem d_Tri_measure_30 : decode prog_1_method_12_code 30 = .ok (.tableswitch 64 0 4 #[34, 40, 46, 52, 58], 34) := by decide +kernel
theorem d_Tri_measure_64 : decode prog_1_method_12_code 64 = .ok (.aload 4, 2) := by decide +kernel
theorem d_Tri_measure_66 : decode prog_1_method_12_code 66 = .ok (.getfield 129, 3) := by decide +kernel
theorem d_Tri_measure_69 : decode prog_1_method_12_code 69 = .ok (.ireturn, 1) := by decide +kernel
theorem d_Tri_measure_70 : decode prog_1_method_12_code 70 = .ok (.aload 4, 2) := by decide +kernel
theorem d_Tri_measure_72 : decode prog_1_method_12_code 72 = .ok (.getfield 132, 3) := by decide +kernel
theorem d_Tri_measure_75 : decode prog_1_method_12_code 75 = .ok (.ireturn, 1) := by decide +kernel
theorem d_Tri_measure_76 : decode prog_1_method_12_code 76 = .ok (.aload 4, 2) := by decide +kernel
theorem d_Tri_measure_78 : decode prog_1_method_12_code 78 = .ok (.getfield 135, 3) := by decide +kernel
theorem d_Tri_measure_81 : decode prog_1_method_12_code 81 = .ok (.ireturn, 1) := by decide +kernel
theorem d_Tri_measure_82 : decode prog_1_method_12_code 82 = .ok (.aload 4, 2) := by decide +kernel
theorem d_Tri_measure_84 : decode prog_1_method_12_code 84 = .ok (.getfield 138, 3) := by decide +kernel
theorem d_Tri_measure_87 : decode prog_1_method_12_code 87 = .ok (.ireturn, 1) := by decide +kernel
theorem d_Tri_measure_88 : decode prog_1_method_12_code 88 = .ok (.aload 4, 2) := by decide +kernel
theorem d_Tri_measure_90 : decode prog_1_method_12_code 90 = .ok (.getfield 141, 3) := by decide +kernel
theorem d_Tri_measure_93 : decode prog_1_method_12_code 93 = .ok (.ireturn, 1) := by decide +kernel
theorem d_Tri_measure_94 : decode prog_1_method_12_code 94 = .ok (.new 144, 3) := by decide +kernel
theorem d_Tri_measure_97 : decode prog_1_method_12_code 97 = .ok (.dup, 1) := by decide +kernel
theorem d_Tri_measure_98 : decode prog_1_method_12_code 98 = .ok (.invokespecial 146, 3) := by decide +kernel
theorem d_Tri_measure_101 : decode prog_1_method_12_code 101 = .ok (.athrow, 1) := by decide +kernel
theorem d_Tri_common_0 : decode prog_1_method_13_code 0 = .ok (.aload_n 0, 1) := by decide +kernel
theorem d_Tri_common_1 : decode prog_1_method_13_code 1 = .ok (.iload_n 1, 1) := by decide +kernel
theorem d_Tri_common_2 : decode prog_1_method_13_code 2 = .ok (.invokevirtual 61, 3) := by decide +kernel
theorem d_Tri_common_5 : decode prog_1_method_13_code 5 = .ok (.getfield 37, 3) := by decide +kernel
theorem d_Tri_common_8 : decode prog_1_method_13_code 8 = .ok (.aload_n 0, 1) := by decide +kernel
theorem d_Tri_common_9 : decode prog_1_method_13_code 9 = .ok (.iload_n 2, 1) := by decide +kernel
theorem d_Tri_common_10 : decode prog_1_method_13_code 10 = .ok (.invokevirtual 61, 3) := by decide +kernel
theorem d_Tri_common_13 : decode prog_1_method_13_code 13 = .ok (.getfield 37, 3) := by decide +kernel
theorem d_Tri_common_16 : decode prog_1_method_13_code 16 = .ok (.iconst 0, 1) := by decide +kernel
theorem d_Tri_common_17 : decode prog_1_method_13_code 17 = .ok (.invokestatic 147, 3) := by decide +kernel
theorem d_Tri_common_20 : decode prog_1_method_13_code 20 = .ok (.ireturn, 1) := by decide +kernel
theorem d_Tri_generation_0 : decode prog_1_method_14_code 0 = .ok (.aload_n 0, 1) := by decide +kernel
theorem d_Tri_generation_1 : decode prog_1_method_14_code 1 = .ok (.iload_n 1, 1) := by decide +kernel
theorem d_Tri_generation_2 : decode prog_1_method_14_code 2 = .ok (.invokevirtual 61, 3) := by decide +kernel
theorem d_Tri_generation_5 : decode prog_1_method_14_code 5 = .ok (.getfield 90, 3) := by decide +kernel
theorem d_Tri_generation_8 : decode prog_1_method_14_code 8 = .ok (.ireturn, 1) := by decide +kernel
theorem d_Tri_existingMap_0 : decode prog_1_method_15_code 0 = .ok (.iload_n 1, 1) := by decide +kernel
theorem d_Tri_existingMap_1 : decode prog_1_method_15_code 1 = .ok (.ifCond .lt 21, 3) := by decide +kernel
theorem d_Tri_existingMap_4 : decode prog_1_method_15_code 4 = .ok (.iload_n 1, 1) := by decide +kernel
theorem d_Tri_existingMap_5 : decode prog_1_method_15_code 5 = .ok (.aload_n 0, 1) := by decide +kernel
theorem d_Tri_existingMap_6 : decode prog_1_method_15_code 6 = .ok (.getfield 11, 3) := by decide +kernel
theorem d_Tri_existingMap_9 : decode prog_1_method_15_code 9 = .ok (.arraylength, 1) := by decide +kernel
theorem d_Tri_existingMap_10 : decode prog_1_method_15_code 10 = .ok (.if_icmp .ge 12, 3) := by decide +kernel
theorem d_Tri_existingMap_13 : decode prog_1_method_15_code 13 = .ok (.aload_n 0, 1) := by decide +kernel
theorem d_Tri_existingMap_14 : decode prog_1_method_15_code 14 = .ok (.getfield 11, 3) := by decide +kernel
theorem d_Tri_existingMap_17 : decode prog_1_method_15_code 17 = .ok (.iload_n 1, 1) := by decide +kernel
theorem d_Tri_existingMap_18 : decode prog_1_method_15_code 18 = .ok (.aaload, 1) := by decide +kernel
theorem d_Tri_existingMap_19 : decode prog_1_method_15_code 19 = .ok (.ifnonnull 11, 3) := by decide +kernel
theorem d_Tri_existingMap_22 : decode prog_1_method_15_code 22 = .ok (.new 144, 3) := by decide +kernel
theorem d_Tri_existingMap_25 : decode prog_1_method_15_code 25 = .ok (.dup, 1) := by decide +kernel
theorem d_Tri_existingMap_26 : decode prog_1_method_15_code 26 = .ok (.invokespecial 146, 3) := by decide +kernel
theorem d_Tri_existingMap_29 : decode prog_1_method_15_code 29 = .ok (.athrow, 1) := by decide +kernel
theorem d_Tri_existingMap_30 : decode prog_1_method_15_code 30 = .ok (.aload_n 0, 1) := by decide +kernel
theorem d_Tri_existingMap_31 : decode prog_1_method_15_code 31 = .ok (.getfield 11, 3) := by decide +kernel
theorem d_Tri_existingMap_34 : decode prog_1_method_15_code 34 = .ok (.iload_n 1, 1) := by decide +kernel
theorem d_Tri_existingMap_35 : decode prog_1_method_15_code 35 = .ok (.aaload, 1) := by decide +kernel
theorem d_Tri_existingMap_36 : decode prog_1_method_15_code 36 = .ok (.areturn, 1) := by decide +kernel
theorem d_Tri_writableMap_0 : decode prog_1_method_16_code 0 = .ok (.aload_n 0, 1) := by decide +kernel
theorem d_Tri_writableMap_1 : decode prog_1_method_16_code 1 = .ok (.iload_n 1, 1) := by decide +kernel
theorem d_Tri_writableMap_2 : decode prog_1_method_16_code 2 = .ok (.invokevirtual 61, 3) := by decide +kernel
theorem d_Tri_writableMap_5 : decode prog_1_method_16_code 5 = .ok (.astore_n 2, 1) := by decide +kernel
theorem d_Tri_writableMap_6 : decode prog_1_method_16_code 6 = .ok (.aload_n 2, 1) := by decide +kernel
theorem d_Tri_writableMap_7 : decode prog_1_method_16_code 7 = .ok (.getfield 151, 3) := by decide +kernel
theorem d_Tri_writableMap_10 : decode prog_1_method_16_code 10 = .ok (.ifCond .eq 11, 3) := by decide +kernel
theorem d_Tri_writableMap_13 : decode prog_1_method_16_code 13 = .ok (.new 155, 3) := by decide +kernel
theorem d_Tri_writableMap_16 : decode prog_1_method_16_code 16 = .ok (.dup, 1) := by decide +kernel
theorem d_Tri_writableMap_17 : decode prog_1_method_16_code 17 = .ok (.invokespecial 157, 3) := by decide +kernel
theorem d_Tri_writableMap_20 : decode prog_1_method_16_code 20 = .ok (.athrow, 1) := by decide +kernel
theorem d_Tri_writableMap_21 : decode prog_1_method_16_code 21 = .ok (.aload_n 2, 1) := by decide +kernel
theorem d_Tri_writableMap_22 : decode prog_1_method_16_code 22 = .ok (.areturn, 1) := by decide +kernel
theorem d_Tri_existingCursor_0 : decode prog_1_method_17_code 0 = .ok (.iload_n 1, 1) := by decide +kernel
theorem d_Tri_existingCursor_1 : decode prog_1_method_17_code 1 = .ok (.ifCond .lt 21, 3) := by decide +kernel
theorem d_Tri_existingCursor_4 : decode prog_1_method_17_code 4 = .ok (.iload_n 1, 1) := by decide +kernel
theorem d_Tri_existingCursor_5 : decode prog_1_method_17_code 5 = .ok (.aload_n 0, 1) := by decide +kernel
theorem d_Tri_existingCursor_6 : decode prog_1_method_17_code 6 = .ok (.getfield 17, 3) := by decide +kernel
theorem d_Tri_existingCursor_9 : decode prog_1_method_17_code 9 = .ok (.arraylength, 1) := by decide +kernel
theorem d_Tri_existingCursor_10 : decode prog_1_method_17_code 10 = .ok (.if_icmp .ge 12, 3) := by decide +kernel
theorem d_Tri_existingCursor_13 : decode prog_1_method_17_code 13 = .ok (.aload_n 0, 1) := by decide +kernel
theorem d_Tri_existingCursor_14 : decode prog_1_method_17_code 14 = .ok (.getfield 17, 3) := by decide +kernel
theorem d_Tri_existingCursor_17 : decode prog_1_method_17_code 17 = .ok (.iload_n 1, 1) := by decide +kernel
theorem d_Tri_existingCursor_18 : decode prog_1_method_17_code 18 = .ok (.aaload, 1) := by decide +kernel
theorem d_Tri_existingCursor_19 : decode prog_1_method_17_code 19 = .ok (.ifnonnull 11, 3) := by decide +kernel
theorem d_Tri_existingCursor_22 : decode prog_1_method_17_code 22 = .ok (.new 144, 3) := by decide +kernel
theorem d_Tri_existingCursor_25 : decode prog_1_method_17_code 25 = .ok (.dup, 1) := by decide +kernel
theorem d_Tri_existingCursor_26 : decode prog_1_method_17_code 26 = .ok (.invokespecial 146, 3) := by decide +kernel
theorem d_Tri_existingCursor_29 : decode prog_1_method_17_code 29 = .ok (.athrow, 1) := by decide +kernel
theorem d_Tri_existingCursor_30 : decode prog_1_method_17_code 30 = .ok (.aload_n 0, 1) := by decide +kernel
theorem d_Tri_existingCursor_31 : decode prog_1_method_17_code 31 = .ok (.getfield 17, 3) := by decide +kernel
theorem d_Tri_existingCursor_34 : decode prog_1_method_17_code 34 = .ok (.iload_n 1, 1) := by decide +kernel
theorem d_Tri_existingCursor_35 : decode prog_1_method_17_code 35 = .ok (.aaload, 1) := by decide +kernel
theorem d_Tri_existingCursor_36 : decode prog_1_method_17_code 36 = .ok (.areturn, 1) := by decide +kernel
theorem d_Tri_leastMissingMap_0 : decode prog_1_method_18_code 0 = .ok (.iconst 0, 1) := by decide +kernel
theorem d_Tri_leastMissingMap_1 : decode prog_1_method_18_code 1 = .ok (.istore_n 1, 1) := by decide +kernel
theorem d_Tri_leastMissingMap_2 : decode prog_1_method_18_code 2 = .ok (.iload_n 1, 1) := by decide +kernel
theorem d_Tri_leastMissingMap_3 : decode prog_1_method_18_code 3 = .ok (.aload_n 0, 1) := by decide +kernel
theorem d_Tri_leastMissingMap_4 : decode prog_1_method_18_code 4 = .ok (.getfield 11, 3) := by decide +kernel
theorem d_Tri_leastMissingMap_7 : decode prog_1_method_18_code 7 = .ok (.arraylength, 1) := by decide +kernel
theorem d_Tri_leastMissingMap_8 : decode prog_1_method_18_code 8 = .ok (.if_icmp .ge 20, 3) := by decide +kernel
theorem d_Tri_leastMissingMap_11 : decode prog_1_method_18_code 11 = .ok (.aload_n 0, 1) := by decide +kernel
theorem d_Tri_leastMissingMap_12 : decode prog_1_method_18_code 12 = .ok (.getfield 11, 3) := by decide +kernel
theorem d_Tri_leastMissingMap_15 : decode prog_1_method_18_code 15 = .ok (.iload_n 1, 1) := by decide +kernel
theorem d_Tri_leastMissingMap_16 : decode prog_1_method_18_code 16 = .ok (.aaload, 1) := by decide +kernel
theorem d_Tri_leastMissingMap_17 : decode prog_1_method_18_code 17 = .ok (.ifnonnull 5, 3) := by decide +kernel
theorem d_Tri_leastMissingMap_20 : decode prog_1_method_18_code 20 = .ok (.iload_n 1, 1) := by decide +kernel
theorem d_Tri_leastMissingMap_21 : decode prog_1_method_18_code 21 = .ok (.ireturn, 1) := by decide +kernel
theorem d_Tri_leastMissingMap_22 : decode prog_1_method_18_code 22 = .ok (.iinc 1 1, 3) := by decide +kernel
theorem d_Tri_leastMissingMap_25 : decode prog_1_method_18_code 25 = .ok (.goto (-23), 3) := by decide +kernel
theorem d_Tri_leastMissingMap_28 : decode prog_1_method_18_code 28 = .ok (.iconst (-1), 1) := by decide +kernel
theorem d_Tri_leastMissingMap_29 : decode prog_1_method_18_code 29 = .ok (.ireturn, 1) := by decide +kernel
theorem d_Tri_leastFreeCursor_0 : decode prog_1_method_19_code 0 = .ok (.iconst 0, 1) := by decide +kernel
theorem d_Tri_leastFreeCursor_1 : decode prog_1_method_19_code 1 = .ok (.istore_n 1, 1) := by decide +kernel
theorem d_Tri_leastFreeCursor_2 : decode prog_1_method_19_code 2 = .ok (.iload_n 1, 1) := by decide +kernel
theorem d_Tri_leastFreeCursor_3 : decode prog_1_method_19_code 3 = .ok (.aload_n 0, 1) := by decide +kernel
theorem d_Tri_leastFreeCursor_4 : decode prog_1_method_19_code 4 = .ok (.getfield 17, 3) := by decide +kernel
theorem d_Tri_leastFreeCursor_7 : decode prog_1_method_19_code 7 = .ok (.arraylength, 1) := by decide +kernel
theorem d_Tri_leastFreeCursor_8 : decode prog_1_method_19_code 8 = .ok (.if_icmp .ge 20, 3) := by decide +kernel
theorem d_Tri_leastFreeCursor_11 : decode prog_1_method_19_code 11 = .ok (.aload_n 0, 1) := by decide +kernel
theorem d_Tri_leastFreeCursor_12 : decode prog_1_method_19_code 12 = .ok (.getfield 17, 3) := by decide +kernel
theorem d_Tri_leastFreeCursor_15 : decode prog_1_method_19_code 15 = .ok (.iload_n 1, 1) := by decide +kernel
theorem d_Tri_leastFreeCursor_16 : decode prog_1_method_19_code 16 = .ok (.aaload, 1) := by decide +kernel
theorem d_Tri_leastFreeCursor_17 : decode prog_1_method_19_code 17 = .ok (.ifnonnull 5, 3) := by decide +kernel
theorem d_Tri_leastFreeCursor_20 : decode prog_1_method_19_code 20 = .ok (.iload_n 1, 1) := by decide +kernel
theorem d_Tri_leastFreeCursor_21 : decode prog_1_method_19_code 21 = .ok (.ireturn, 1) := by decide +kernel
theorem d_Tri_leastFreeCursor_22 : decode prog_1_method_19_code 22 = .ok (.iinc 1 1, 3) := by decide +kernel
theorem d_Tri_leastFreeCursor_25 : decode prog_1_method_19_code 25 = .ok (.goto (-23), 3) := by decide +kernel
theorem d_Tri_leastFreeCursor_28 : decode prog_1_method_19_code 28 = .ok (.iconst (-1), 1) := by decide +kernel
theorem d_Tri_leastFreeCursor_29 : decode prog_1_method_19_code 29 = .ok (.ireturn, 1) := by decide +kernel
theorem d_Tri_newGeneration_0 : decode prog_1_method_20_code 0 = .ok (.aload_n 0, 1) := by decide +kernel
theorem d_Tri_newGeneration_1 : decode prog_1_method_20_code 1 = .ok (.dup, 1) := by decide +kernel
theorem d_Tri_newGeneration_2 : decode prog_1_method_20_code 2 = .ok (.getfield 21, 3) := by decide +kernel
theorem d_Tri_newGeneration_5 : decode prog_1_method_20_code 5 = .ok (.iconst 1, 1) := by decide +kernel
theorem d_Tri_newGeneration_6 : decode prog_1_method_20_code 6 = .ok (.iadd, 1) := by decide +kernel
theorem d_Tri_newGeneration_7 : decode prog_1_method_20_code 7 = .ok (.putfield 21, 3) := by decide +kernel
theorem d_Tri_newGeneration_10 : decode prog_1_method_20_code 10 = .ok (.aload_n 0, 1) := by decide +kernel
theorem d_Tri_newGeneration_11 : decode prog_1_method_20_code 11 = .ok (.getfield 21, 3) := by decide +kernel
theorem d_Tri_newGeneration_14 : decode prog_1_method_20_code 14 = .ok (.ireturn, 1) := by decide +kernel
theorem d_Tri_write_0 : decode prog_1_method_21_code 0 = .ok (.aload_n 0, 1) := by decide +kernel
theorem d_Tri_write_1 : decode prog_1_method_21_code 1 = .ok (.aload_n 1, 1) := by decide +kernel
theorem d_Tri_write_2 : decode prog_1_method_21_code 2 = .ok (.aload_n 2, 1) := by decide +kernel
theorem d_Tri_write_3 : decode prog_1_method_21_code 3 = .ok (.getfield 117, 3) := by decide +kernel
theorem d_Tri_write_6 : decode prog_1_method_21_code 6 = .ok (.invokestatic 72, 3) := by decide +kernel
theorem d_Tri_write_9 : decode prog_1_method_21_code 9 = .ok (.putfield 76, 3) := by decide +kernel
theorem d_Tri_write_12 : decode prog_1_method_21_code 12 = .ok (.aload_n 1, 1) := by decide +kernel
theorem d_Tri_write_13 : decode prog_1_method_21_code 13 = .ok (.getfield 37, 3) := by decide +kernel
theorem d_Tri_write_16 : decode prog_1_method_21_code 16 = .ok (.aload_n 2, 1) := by decide +kernel
theorem d_Tri_write_17 : decode prog_1_method_21_code 17 = .ok (.aload_n 1, 1) := by decide +kernel
theorem d_Tri_write_18 : decode prog_1_method_21_code 18 = .ok (.getfield 90, 3) := by decide +kernel
theorem d_Tri_write_21 : decode prog_1_method_21_code 21 = .ok (.invokestatic 158, 3) := by decide +kernel
theorem d_Tri_write_24 : decode prog_1_method_21_code 24 = .ok (.return_, 1) := by decide +kernel
theorem d_Tri_digit_0 : decode prog_1_method_22_code 0 = .ok (.iload_n 0, 1) := by decide +kernel
theorem d_Tri_digit_1 : decode prog_1_method_22_code 1 = .ok (.ldc 162, 2) := by decide +kernel
theorem d_Tri_digit_3 : decode prog_1_method_22_code 3 = .ok (.imul, 1) := by decide +kernel
theorem d_Tri_digit_4 : decode prog_1_method_22_code 4 = .ok (.bipush 24, 2) := by decide +kernel
theorem d_Tri_digit_6 : decode prog_1_method_22_code 6 = .ok (.iushr, 1) := by decide +kernel
theorem d_Tri_digit_7 : decode prog_1_method_22_code 7 = .ok (.istore_n 2, 1) := by decide +kernel
theorem d_Tri_digit_8 : decode prog_1_method_22_code 8 = .ok (.iload_n 2, 1) := by decide +kernel
theorem d_Tri_digit_9 : decode prog_1_method_22_code 9 = .ok (.bipush 6, 2) := by decide +kernel
theorem d_Tri_digit_11 : decode prog_1_method_22_code 11 = .ok (.iconst 2, 1) := by decide +kernel
theorem d_Tri_digit_12 : decode prog_1_method_22_code 12 = .ok (.iload_n 1, 1) := by decide +kernel
theorem d_Tri_digit_13 : decode prog_1_method_22_code 13 = .ok (.imul, 1) := by decide +kernel
theorem d_Tri_digit_14 : decode prog_1_method_22_code 14 = .ok (.isub, 1) := by decide +kernel
theorem d_Tri_digit_15 : decode prog_1_method_22_code 15 = .ok (.iushr, 1) := by decide +kernel
theorem d_Tri_digit_16 : decode prog_1_method_22_code 16 = .ok (.iconst 3, 1) := by decide +kernel
theorem d_Tri_digit_17 : decode prog_1_method_22_code 17 = .ok (.iand, 1) := by decide +kernel
theorem d_Tri_digit_18 : decode prog_1_method_22_code 18 = .ok (.ireturn, 1) := by decide +kernel
theorem d_Tri_presentEntry_0 : decode prog_1_method_23_code 0 = .ok (.aload_n 0, 1) := by decide +kernel
theorem d_Tri_presentEntry_1 : decode prog_1_method_23_code 1 = .ok (.getfield 37, 3) := by decide +kernel
theorem d_Tri_presentEntry_4 : decode prog_1_method_23_code 4 = .ok (.iload_n 1, 1) := by decide +kernel
theorem d_Tri_presentEntry_5 : decode prog_1_method_23_code 5 = .ok (.invokestatic 41, 3) := by decide +kernel
theorem d_Tri_presentEntry_8 : decode prog_1_method_23_code 8 = .ok (.astore_n 2, 1) := by decide +kernel
theorem d_Tri_presentEntry_9 : decode prog_1_method_23_code 9 = .ok (.aload_n 2, 1) := by decide +kernel
theorem d_Tri_presentEntry_10 : decode prog_1_method_23_code 10 = .ok (.ifnonnull 11, 3) := by decide +kernel
theorem d_Tri_presentEntry_13 : decode prog_1_method_23_code 13 = .ok (.new 111, 3) := by decide +kernel
theorem d_Tri_presentEntry_16 : decode prog_1_method_23_code 16 = .ok (.dup, 1) := by decide +kernel
theorem d_Tri_presentEntry_17 : decode prog_1_method_23_code 17 = .ok (.invokespecial 113, 3) := by decide +kernel
theorem d_Tri_presentEntry_20 : decode prog_1_method_23_code 20 = .ok (.athrow, 1) := by decide +kernel
theorem d_Tri_presentEntry_21 : decode prog_1_method_23_code 21 = .ok (.aload_n 2, 1) := by decide +kernel
theorem d_Tri_presentEntry_22 : decode prog_1_method_23_code 22 = .ok (.areturn, 1) := by decide +kernel
theorem d_Tri_find_0 : decode prog_1_method_24_code 0 = .ok (.aload_n 0, 1) := by decide +kernel
theorem d_Tri_find_1 : decode prog_1_method_24_code 1 = .ok (.astore_n 2, 1) := by decide +kernel
theorem d_Tri_find_2 : decode prog_1_method_24_code 2 = .ok (.iconst 0, 1) := by decide +kernel
theorem d_Tri_find_3 : decode prog_1_method_24_code 3 = .ok (.istore_n 3, 1) := by decide +kernel
theorem d_Tri_find_4 : decode prog_1_method_24_code 4 = .ok (.iload_n 3, 1) := by decide +kernel
theorem d_Tri_find_5 : decode prog_1_method_24_code 5 = .ok (.iconst 4, 1) := by decide +kernel
theorem d_Tri_find_6 : decode prog_1_method_24_code 6 = .ok (.if_icmp .ge 63, 3) := by decide +kernel
theorem d_Tri_find_9 : decode prog_1_method_24_code 9 = .ok (.iload_n 1, 1) := by decide +kernel
theorem d_Tri_find_10 : decode prog_1_method_24_code 10 = .ok (.iload_n 3, 1) := by decide +kernel
theorem d_Tri_find_11 : decode prog_1_method_24_code 11 = .ok (.invokestatic 163, 3) := by decide +kernel
theorem d_Tri_find_14 : decode prog_1_method_24_code 14 = .ok (.istore 4, 2) := by decide +kernel
theorem d_Tri_find_16 : decode prog_1_method_24_code 16 = .ok (.aload_n 2, 1) := by decide +kernel
theorem d_Tri_find_17 : decode prog_1_method_24_code 17 = .ok (.getfield 167, 3) := by decide +kernel
theorem d_Tri_find_20 : decode prog_1_method_24_code 20 = .ok (.iload 4, 2) := by decide +kernel
theorem d_Tri_find_22 : decode prog_1_method_24_code 22 = .ok (.aaload, 1) := by decide +kernel
theorem d_Tri_find_23 : decode prog_1_method_24_code 23 = .ok (.astore 5, 2) := by decide +kernel
theorem d_Tri_find_25 : decode prog_1_method_24_code 25 = .ok (.aload 5, 2) := by decide +kernel
theorem d_Tri_find_27 : decode prog_1_method_24_code 27 = .ok (.ifnonnull 33, 3) := by decide +kernel
theorem d_Tri_find_30 : decode prog_1_method_24_code 30 = .ok (.aload_n 2, 1) := by decide +kernel
theorem d_Tri_find_31 : decode prog_1_method_24_code 31 = .ok (.getfield 170, 3) := by decide +kernel
theorem d_Tri_find_34 : decode prog_1_method_24_code 34 = .ok (.iload 4, 2) := by decide +kernel
theorem d_Tri_find_36 : decode prog_1_method_24_code 36 = .ok (.aaload, 1) := by decide +kernel
theorem d_Tri_find_37 : decode prog_1_method_24_code 37 = .ok (.astore 6, 2) := by decide +kernel
theorem d_Tri_find_39 : decode prog_1_method_24_code 39 = .ok (.aload 6, 2) := by decide +kernel
theorem d_Tri_find_41 : decode prog_1_method_24_code 41 = .ok (.ifnull 17, 3) := by decide +kernel
theorem d_Tri_find_44 : decode prog_1_method_24_code 44 = .ok (.aload 6, 2) := by decide +kernel
theorem d_Tri_find_46 : decode prog_1_method_24_code 46 = .ok (.getfield 117, 3) := by decide +kernel
theorem d_Tri_find_49 : decode prog_1_method_24_code 49 = .ok (.iload_n 1, 1) := by decide +kernel
theorem d_Tri_find_50 : decode prog_1_method_24_code 50 = .ok (.if_icmp .ne 8, 3) := by decide +kernel
theorem d_Tri_find_53 : decode prog_1_method_24_code 53 = .ok (.aload 6, 2) := by decide +kernel
theorem d_Tri_find_55 : decode prog_1_method_24_code 55 = .ok (.goto 4, 3) := by decide +kernel
theorem d_Tri_find_58 : decode prog_1_method_24_code 58 = .ok (.aconst_null, 1) := by decide +kernel
theorem d_Tri_find_59 : decode prog_1_method_24_code 59 = .ok (.areturn, 1) := by decide +kernel
theorem d_Tri_find_60 : decode prog_1_method_24_code 60 = .ok (.aload 5, 2) := by decide +kernel
theorem d_Tri_find_62 : decode prog_1_method_24_code 62 = .ok (.astore_n 2, 1) := by decide +kernel
theorem d_Tri_find_63 : decode prog_1_method_24_code 63 = .ok (.iinc 3 1, 3) := by decide +kernel
theorem d_Tri_find_66 : decode prog_1_method_24_code 66 = .ok (.goto (-62), 3) := by decide +kernel
theorem d_Tri_find_69 : decode prog_1_method_24_code 69 = .ok (.aload_n 2, 1) := by decide +kernel
theorem d_Tri_find_70 : decode prog_1_method_24_code 70 = .ok (.iload_n 1, 1) := by decide +kernel
theorem d_Tri_find_71 : decode prog_1_method_24_code 71 = .ok (.invokevirtual 174, 3) := by decide +kernel
theorem d_Tri_find_74 : decode prog_1_method_24_code 74 = .ok (.istore_n 3, 1) := by decide +kernel
theorem d_Tri_find_75 : decode prog_1_method_24_code 75 = .ok (.iload_n 3, 1) := by decide +kernel
theorem d_Tri_find_76 : decode prog_1_method_24_code 76 = .ok (.iconst (-1), 1) := by decide +kernel
theorem d_Tri_find_77 : decode prog_1_method_24_code 77 = .ok (.if_icmp .ne 7, 3) := by decide +kernel
theorem d_Tri_find_80 : decode prog_1_method_24_code 80 = .ok (.aconst_null, 1) := by decide +kernel
theorem d_Tri_find_81 : decode prog_1_method_24_code 81 = .ok (.goto 9, 3) := by decide +kernel
theorem d_Tri_find_84 : decode prog_1_method_24_code 84 = .ok (.aload_n 2, 1) := by decide +kernel
theorem d_Tri_find_85 : decode prog_1_method_24_code 85 = .ok (.getfield 170, 3) := by decide +kernel
theorem d_Tri_find_88 : decode prog_1_method_24_code 88 = .ok (.iload_n 3, 1) := by decide +kernel
theorem d_Tri_find_89 : decode prog_1_method_24_code 89 = .ok (.aaload, 1) := by decide +kernel
theorem d_Tri_find_90 : decode prog_1_method_24_code 90 = .ok (.areturn, 1) := by decide +kernel
theorem d_Tri_hasRoomFor_0 : decode prog_1_method_25_code 0 = .ok (.aload_n 0, 1) := by decide +kernel
theorem d_Tri_hasRoomFor_1 : decode prog_1_method_25_code 1 = .ok (.invokestatic 93, 3) := by decide +kernel
theorem d_Tri_hasRoomFor_4 : decode prog_1_method_25_code 4 = .ok (.bipush 60, 2) := by decide +kernel
theorem d_Tri_hasRoomFor_6 : decode prog_1_method_25_code 6 = .ok (.if_icmp .lt 5, 3) := by decide +kernel
theorem d_Tri_hasRoomFor_9 : decode prog_1_method_25_code 9 = .ok (.iconst 0, 1) := by decide +kernel
theorem d_Tri_hasRoomFor_10 : decode prog_1_method_25_code 10 = .ok (.ireturn, 1) := by decide +kernel
theorem d_Tri_hasRoomFor_11 : decode prog_1_method_25_code 11 = .ok (.aload_n 0, 1) := by decide +kernel
theorem d_Tri_hasRoomFor_12 : decode prog_1_method_25_code 12 = .ok (.astore_n 2, 1) := by decide +kernel
theorem d_Tri_hasRoomFor_13 : decode prog_1_method_25_code 13 = .ok (.iconst 0, 1) := by decide +kernel
theorem d_Tri_hasRoomFor_14 : decode prog_1_method_25_code 14 = .ok (.istore_n 3, 1) := by decide +kernel
theorem d_Tri_hasRoomFor_15 : decode prog_1_method_25_code 15 = .ok (.iload_n 3, 1) := by decide +kernel
theorem d_Tri_hasRoomFor_16 : decode prog_1_method_25_code 16 = .ok (.iconst 4, 1) := by decide +kernel
theorem d_Tri_hasRoomFor_17 : decode prog_1_method_25_code 17 = .ok (.if_icmp .ge 26, 3) := by decide +kernel
theorem d_Tri_hasRoomFor_20 : decode prog_1_method_25_code 20 = .ok (.aload_n 2, 1) := by decide +kernel
theorem d_Tri_hasRoomFor_21 : decode prog_1_method_25_code 21 = .ok (.getfield 167, 3) := by decide +kernel
theorem d_Tri_hasRoomFor_24 : decode prog_1_method_25_code 24 = .ok (.iload_n 1, 1) := by decide +kernel
theorem d_Tri_hasRoomFor_25 : decode prog_1_method_25_code 25 = .ok (.iload_n 3, 1) := by decide +kernel
theorem d_Tri_hasRoomFor_26 : decode prog_1_method_25_code 26 = .ok (.invokestatic 163, 3) := by decide +kernel
theorem d_Tri_hasRoomFor_29 : decode prog_1_method_25_code 29 = .ok (.aaload, 1) := by decide +kernel
theorem d_Tri_hasRoomFor_30 : decode prog_1_method_25_code 30 = .ok (.astore_n 2, 1) := by decide +kernel
theorem d_Tri_hasRoomFor_31 : decode prog_1_method_25_code 31 = .ok (.aload_n 2, 1) := by decide +kernel
theorem d_Tri_hasRoomFor_32 : decode prog_1_method_25_code 32 = .ok (.ifnonnull 5, 3) := by decide +kernel
theorem d_Tri_hasRoomFor_35 : decode prog_1_method_25_code 35 = .ok (.iconst 1, 1) := by decide +kernel
theorem d_Tri_hasRoomFor_36 : decode prog_1_method_25_code 36 = .ok (.ireturn, 1) := by decide +kernel
theorem d_Tri_hasRoomFor_37 : decode prog_1_method_25_code 37 = .ok (.iinc 3 1, 3) := by decide +kernel
theorem d_Tri_hasRoomFor_40 : decode prog_1_method_25_code 40 = .ok (.goto (-25), 3) := by decide +kernel
theorem d_Tri_hasRoomFor_43 : decode prog_1_method_25_code 43 = .ok (.aload_n 2, 1) := by decide +kernel
theorem d_Tri_hasRoomFor_44 : decode prog_1_method_25_code 44 = .ok (.invokevirtual 178, 3) := by decide +kernel
theorem d_Tri_hasRoomFor_47 : decode prog_1_method_25_code 47 = .ok (.bipush 6, 2) := by decide +kernel
theorem d_Tri_hasRoomFor_49 : decode prog_1_method_25_code 49 = .ok (.if_icmp .ge 7, 3) := by decide +kernel
theorem d_Tri_hasRoomFor_52 : decode prog_1_method_25_code 52 = .ok (.iconst 1, 1) := by decide +kernel
theorem d_Tri_hasRoomFor_53 : decode prog_1_method_25_code 53 = .ok (.goto 4, 3) := by decide +kernel
theorem d_Tri_hasRoomFor_56 : decode prog_1_method_25_code 56 = .ok (.iconst 0, 1) := by decide +kernel
theorem d_Tri_hasRoomFor_57 : decode prog_1_method_25_code 57 = .ok (.ireturn, 1) := by decide +kernel
theorem d_Tri_ownWay_0 : decode prog_1_method_26_code 0 = .ok (.iconst 0, 1) := by decide +kernel
theorem d_Tri_ownWay_1 : decode prog_1_method_26_code 1 = .ok (.istore_n 2, 1) := by decide +kernel
theorem d_Tri_ownWay_2 : decode prog_1_method_26_code 2 = .ok (.aload_n 0, 1) := by decide +kernel
theorem d_Tri_ownWay_3 : decode prog_1_method_26_code 3 = .ok (.getfield 37, 3) := by decide +kernel
theorem d_Tri_ownWay_6 : decode prog_1_method_26_code 6 = .ok (.getfield 181, 3) := by decide +kernel
theorem d_Tri_ownWay_9 : decode prog_1_method_26_code 9 = .ok (.aload_n 0, 1) := by decide +kernel
theorem d_Tri_ownWay_10 : decode prog_1_method_26_code 10 = .ok (.getfield 90, 3) := by decide +kernel
theorem d_Tri_ownWay_13 : decode prog_1_method_26_code 13 = .ok (.if_icmp .eq 22, 3) := by decide +kernel
theorem d_Tri_ownWay_16 : decode prog_1_method_26_code 16 = .ok (.aload_n 0, 1) := by decide +kernel
theorem d_Tri_ownWay_17 : decode prog_1_method_26_code 17 = .ok (.aload_n 0, 1) := by decide +kernel
theorem d_Tri_ownWay_18 : decode prog_1_method_26_code 18 = .ok (.getfield 37, 3) := by decide +kernel
theorem d_Tri_ownWay_21 : decode prog_1_method_26_code 21 = .ok (.aload_n 0, 1) := by decide +kernel
theorem d_Tri_ownWay_22 : decode prog_1_method_26_code 22 = .ok (.getfield 90, 3) := by decide +kernel
theorem d_Tri_ownWay_25 : decode prog_1_method_26_code 25 = .ok (.iconst 0, 1) := by decide +kernel
theorem d_Tri_ownWay_26 : decode prog_1_method_26_code 26 = .ok (.invokestatic 182, 3) := by decide +kernel
theorem d_Tri_ownWay_29 : decode prog_1_method_26_code 29 = .ok (.putfield 37, 3) := by decide +kernel
theorem d_Tri_ownWay_32 : decode prog_1_method_26_code 32 = .ok (.iinc 2 1, 3) := by decide +kernel
theorem d_Tri_ownWay_35 : decode prog_1_method_26_code 35 = .ok (.aload_n 0, 1) := by decide +kernel
theorem d_Tri_ownWay_36 : decode prog_1_method_26_code 36 = .ok (.getfield 37, 3) := by decide +kernel
theorem d_Tri_ownWay_39 : decode prog_1_method_26_code 39 = .ok (.astore_n 3, 1) := by decide +kernel
theorem d_Tri_ownWay_40 : decode prog_1_method_26_code 40 = .ok (.iconst 0, 1) := by decide +kernel
theorem d_Tri_ownWay_41 : decode prog_1_method_26_code 41 = .ok (.istore 4, 2) := by decide +kernel
theorem d_Tri_ownWay_43 : decode prog_1_method_26_code 43 = .ok (.iload 4, 2) := by decide +kernel
theorem d_Tri_ownWay_45 : decode prog_1_method_26_code 45 = .ok (.iconst 4, 1) := by decide +kernel
theorem d_Tri_ownWay_46 : decode prog_1_method_26_code 46 = .ok (.if_icmp .ge 76, 3) := by decide +kernel
theorem d_Tri_ownWay_49 : decode prog_1_method_26_code 49 = .ok (.iload_n 1, 1) := by decide +kernel
theorem d_Tri_ownWay_50 : decode prog_1_method_26_code 50 = .ok (.iload 4, 2) := by decide +kernel
theorem d_Tri_ownWay_52 : decode prog_1_method_26_code 52 = .ok (.invokestatic 163, 3) := by decide +kernel
theorem d_Tri_ownWay_55 : decode prog_1_method_26_code 55 = .ok (.istore 5, 2) := by decide +kernel
theorem d_Tri_ownWay_57 : decode prog_1_method_26_code 57 = .ok (.aload_n 3, 1) := by decide +kernel
theorem d_Tri_ownWay_58 : decode prog_1_method_26_code 58 = .ok (.getfield 167, 3) := by decide +kernel
theorem d_Tri_ownWay_61 : decode prog_1_method_26_code 61 = .ok (.iload 5, 2) := by decide +kernel
theorem d_Tri_ownWay_63 : decode prog_1_method_26_code 63 = .ok (.aaload, 1) := by decide +kernel
theorem d_Tri_ownWay_64 : decode prog_1_method_26_code 64 = .ok (.astore 6, 2) := by decide +kernel
theorem d_Tri_ownWay_66 : decode prog_1_method_26_code 66 = .ok (.aload 6, 2) := by decide +kernel
theorem d_Tri_ownWay_68 : decode prog_1_method_26_code 68 = .ok (.ifnonnull 6, 3) := by decide +kernel
theorem d_Tri_ownWay_71 : decode prog_1_method_26_code 71 = .ok (.goto 51, 3) := by decide +kernel
theorem d_Tri_ownWay_74 : decode prog_1_method_26_code 74 = .ok (.aload 6, 2) := by decide +kernel
theorem d_Tri_ownWay_76 : decode prog_1_method_26_code 76 = .ok (.getfield 181, 3) := by decide +kernel
theorem d_Tri_ownWay_79 : decode prog_1_method_26_code 79 = .ok (.aload_n 0, 1) := by decide +kernel
theorem d_Tri_ownWay_80 : decode prog_1_method_26_code 80 = .ok (.getfield 90, 3) := by decide +kernel
theorem d_Tri_ownWay_83 : decode prog_1_method_26_code 83 = .ok (.if_icmp .eq 30, 3) := by decide +kernel
theorem d_Tri_ownWay_86 : decode prog_1_method_26_code 86 = .ok (.aload 6, 2) := by decide +kernel
theorem d_Tri_ownWay_88 : decode prog_1_method_26_code 88 = .ok (.aload_n 0, 1) := by decide +kernel
theorem d_Tri_ownWay_89 : decode prog_1_method_26_code 89 = .ok (.getfield 90, 3) := by decide +kernel
theorem d_Tri_ownWay_92 : decode prog_1_method_26_code 92 = .ok (.iload 4, 2) := by decide +kernel
theorem d_Tri_ownWay_94 : decode prog_1_method_26_code 94 = .ok (.iconst 1, 1) := by decide +kernel
theorem d_Tri_ownWay_95 : decode prog_1_method_26_code 95 = .ok (.iadd, 1) := by decide +kernel
theorem d_Tri_ownWay_96 : decode prog_1_method_26_code 96 = .ok (.invokestatic 182, 3) := by decide +kernel
theorem d_Tri_ownWay_99 : decode prog_1_method_26_code 99 = .ok (.astore 6, 2) := by decide +kernel
theorem d_Tri_ownWay_101 : decode prog_1_method_26_code 101 = .ok (.aload_n 3, 1) := by decide +kernel
theorem d_Tri_ownWay_102 : decode prog_1_method_26_code 102 = .ok (.getfield 167, 3) := by decide +kernel
theorem d_Tri_ownWay_105 : decode prog_1_method_26_code 105 = .ok (.iload 5, 2) := by decide +kernel
theorem d_Tri_ownWay_107 : decode prog_1_method_26_code 107 = .ok (.aload 6, 2) := by decide +kernel
theorem d_Tri_ownWay_109 : decode prog_1_method_26_code 109 = .ok (.aastore, 1) := by decide +kernel
theorem d_Tri_ownWay_110 : decode prog_1_method_26_code 110 = .ok (.iinc 2 1, 3) := by decide +kernel
theorem d_Tri_ownWay_113 : decode prog_1_method_26_code 113 = .ok (.aload 6, 2) := by decide +kernel
theorem d_Tri_ownWay_115 : decode prog_1_method_26_code 115 = .ok (.astore_n 3, 1) := by decide +kernel
theorem d_Tri_ownWay_116 : decode prog_1_method_26_code 116 = .ok (.iinc 4 1, 3) := by decide +kernel
theorem d_Tri_ownWay_119 : decode prog_1_method_26_code 119 = .ok (.goto (-76), 3) := by decide +kernel
theorem d_Tri_ownWay_122 : decode prog_1_method_26_code 122 = .ok (.iload_n 2, 1) := by decide +kernel
theorem d_Tri_ownWay_123 : decode prog_1_method_26_code 123 = .ok (.ireturn, 1) := by decide +kernel
theorem d_Tri_copyOf_0 : decode prog_1_method_27_code 0 = .ok (.new 25, 3) := by decide +kernel
theorem d_Tri_copyOf_3 : decode prog_1_method_27_code 3 = .ok (.dup, 1) := by decide +kernel
theorem d_Tri_copyOf_4 : decode prog_1_method_27_code 4 = .ok (.iload_n 1, 1) := by decide +kernel
theorem d_Tri_copyOf_5 : decode prog_1_method_27_code 5 = .ok (.iload_n 2, 1) := by decide +kernel
theorem d_Tri_copyOf_6 : decode prog_1_method_27_code 6 = .ok (.invokespecial 27, 3) := by decide +kernel
theorem d_Tri_copyOf_9 : decode prog_1_method_27_code 9 = .ok (.astore_n 3, 1) := by decide +kernel
theorem d_Tri_copyOf_10 : decode prog_1_method_27_code 10 = .ok (.iconst 0, 1) := by decide +kernel
theorem d_Tri_copyOf_11 : decode prog_1_method_27_code 11 = .ok (.istore 4, 2) := by decide +kernel
theorem d_Tri_copyOf_13 : decode prog_1_method_27_code 13 = .ok (.iload 4, 2) := by decide +kernel
theorem d_Tri_copyOf_15 : decode prog_1_method_27_code 15 = .ok (.aload_n 3, 1) := by decide +kernel
theorem d_Tri_copyOf_16 : decode prog_1_method_27_code 16 = .ok (.getfield 170, 3) := by decide +kernel
theorem d_Tri_copyOf_19 : decode prog_1_method_27_code 19 = .ok (.arraylength, 1) := by decide +kernel
theorem d_Tri_copyOf_20 : decode prog_1_method_27_code 20 = .ok (.if_icmp .ge 22, 3) := by decide +kernel
theorem d_Tri_copyOf_23 : decode prog_1_method_27_code 23 = .ok (.aload_n 3, 1) := by decide +kernel
theorem d_Tri_copyOf_24 : decode prog_1_method_27_code 24 = .ok (.getfield 170, 3) := by decide +kernel
theorem d_Tri_copyOf_27 : decode prog_1_method_27_code 27 = .ok (.iload 4, 2) := by decide +kernel
theorem d_Tri_copyOf_29 : decode prog_1_method_27_code 29 = .ok (.aload_n 0, 1) := by decide +kernel
theorem d_Tri_copyOf_30 : decode prog_1_method_27_code 30 = .ok (.iload 4, 2) := by decide +kernel
theorem d_Tri_copyOf_32 : decode prog_1_method_27_code 32 = .ok (.invokevirtual 186, 3) := by decide +kernel
theorem d_Tri_copyOf_35 : decode prog_1_method_27_code 35 = .ok (.aastore, 1) := by decide +kernel
theorem d_Tri_copyOf_36 : decode prog_1_method_27_code 36 = .ok (.iinc 4 1, 3) := by decide +kernel
theorem d_Tri_copyOf_39 : decode prog_1_method_27_code 39 = .ok (.goto (-26), 3) := by decide +kernel
theorem d_Tri_copyOf_42 : decode prog_1_method_27_code 42 = .ok (.iconst 0, 1) := by decide +kernel
theorem d_Tri_copyOf_43 : decode prog_1_method_27_code 43 = .ok (.istore 4, 2) := by decide +kernel
theorem d_Tri_copyOf_45 : decode prog_1_method_27_code 45 = .ok (.iload 4, 2) := by decide +kernel
theorem d_Tri_copyOf_47 : decode prog_1_method_27_code 47 = .ok (.aload_n 3, 1) := by decide +kernel
theorem d_Tri_copyOf_48 : decode prog_1_method_27_code 48 = .ok (.getfield 167, 3) := by decide +kernel
theorem d_Tri_copyOf_51 : decode prog_1_method_27_code 51 = .ok (.arraylength, 1) := by decide +kernel
theorem d_Tri_copyOf_52 : decode prog_1_method_27_code 52 = .ok (.if_icmp .ge 22, 3) := by decide +kernel
theorem d_Tri_copyOf_55 : decode prog_1_method_27_code 55 = .ok (.aload_n 3, 1) := by decide +kernel
theorem d_Tri_copyOf_56 : decode prog_1_method_27_code 56 = .ok (.getfield 167, 3) := by decide +kernel
theorem d_Tri_copyOf_59 : decode prog_1_method_27_code 59 = .ok (.iload 4, 2) := by decide +kernel
theorem d_Tri_copyOf_61 : decode prog_1_method_27_code 61 = .ok (.aload_n 0, 1) := by decide +kernel
theorem d_Tri_copyOf_62 : decode prog_1_method_27_code 62 = .ok (.iload 4, 2) := by decide +kernel
theorem d_Tri_copyOf_64 : decode prog_1_method_27_code 64 = .ok (.invokevirtual 190, 3) := by decide +kernel
theorem d_Tri_copyOf_67 : decode prog_1_method_27_code 67 = .ok (.aastore, 1) := by decide +kernel
theorem d_Tri_copyOf_68 : decode prog_1_method_27_code 68 = .ok (.iinc 4 1, 3) := by decide +kernel
theorem d_Tri_copyOf_71 : decode prog_1_method_27_code 71 = .ok (.goto (-26), 3) := by decide +kernel
theorem d_Tri_copyOf_74 : decode prog_1_method_27_code 74 = .ok (.aload_n 3, 1) := by decide +kernel
theorem d_Tri_copyOf_75 : decode prog_1_method_27_code 75 = .ok (.areturn, 1) := by decide +kernel
theorem d_Tri_putIn_0 : decode prog_1_method_28_code 0 = .ok (.aload_n 0, 1) := by decide +kernel
theorem d_Tri_putIn_1 : decode prog_1_method_28_code 1 = .ok (.astore_n 3, 1) := by decide +kernel
theorem d_Tri_putIn_2 : decode prog_1_method_28_code 2 = .ok (.iconst 0, 1) := by decide +kernel
theorem d_Tri_putIn_3 : decode prog_1_method_28_code 3 = .ok (.istore 4, 2) := by decide +kernel
theorem d_Tri_putIn_5 : decode prog_1_method_28_code 5 = .ok (.iload 4, 2) := by decide +kernel
theorem d_Tri_putIn_7 : decode prog_1_method_28_code 7 = .ok (.iconst 4, 1) := by decide +kernel
theorem d_Tri_putIn_8 : decode prog_1_method_28_code 8 = .ok (.if_icmp .ge 48, 3) := by decide +kernel
theorem d_Tri_putIn_11 : decode prog_1_method_28_code 11 = .ok (.aload_n 1, 1) := by decide +kernel
theorem d_Tri_putIn_12 : decode prog_1_method_28_code 12 = .ok (.getfield 117, 3) := by decide +kernel
theorem d_Tri_putIn_15 : decode prog_1_method_28_code 15 = .ok (.iload 4, 2) := by decide +kernel
theorem d_Tri_putIn_17 : decode prog_1_method_28_code 17 = .ok (.invokestatic 163, 3) := by decide +kernel
theorem d_Tri_putIn_20 : decode prog_1_method_28_code 20 = .ok (.istore 5, 2) := by decide +kernel
theorem d_Tri_putIn_22 : decode prog_1_method_28_code 22 = .ok (.aload_n 3, 1) := by decide +kernel
theorem d_Tri_putIn_23 : decode prog_1_method_28_code 23 = .ok (.getfield 167, 3) := by decide +kernel
theorem d_Tri_putIn_26 : decode prog_1_method_28_code 26 = .ok (.iload 5, 2) := by decide +kernel
theorem d_Tri_putIn_28 : decode prog_1_method_28_code 28 = .ok (.aaload, 1) := by decide +kernel
theorem d_Tri_putIn_29 : decode prog_1_method_28_code 29 = .ok (.astore 6, 2) := by decide +kernel
theorem d_Tri_putIn_31 : decode prog_1_method_28_code 31 = .ok (.aload 6, 2) := by decide +kernel
theorem d_Tri_putIn_33 : decode prog_1_method_28_code 33 = .ok (.ifnonnull 14, 3) := by decide +kernel
theorem d_Tri_putIn_36 : decode prog_1_method_28_code 36 = .ok (.aload_n 3, 1) := by decide +kernel
theorem d_Tri_putIn_37 : decode prog_1_method_28_code 37 = .ok (.iload 5, 2) := by decide +kernel
theorem d_Tri_putIn_39 : decode prog_1_method_28_code 39 = .ok (.iload 4, 2) := by decide +kernel
theorem d_Tri_putIn_41 : decode prog_1_method_28_code 41 = .ok (.aload_n 1, 1) := by decide +kernel
theorem d_Tri_putIn_42 : decode prog_1_method_28_code 42 = .ok (.iload_n 2, 1) := by decide +kernel
theorem d_Tri_putIn_43 : decode prog_1_method_28_code 43 = .ok (.invokestatic 194, 3) := by decide +kernel
theorem d_Tri_putIn_46 : decode prog_1_method_28_code 46 = .ok (.return_, 1) := by decide +kernel
theorem d_Tri_putIn_47 : decode prog_1_method_28_code 47 = .ok (.aload 6, 2) := by decide +kernel
theorem d_Tri_putIn_49 : decode prog_1_method_28_code 49 = .ok (.astore_n 3, 1) := by decide +kernel
theorem d_Tri_putIn_50 : decode prog_1_method_28_code 50 = .ok (.iinc 4 1, 3) := by decide +kernel
theorem d_Tri_putIn_53 : decode prog_1_method_28_code 53 = .ok (.goto (-48), 3) := by decide +kernel
theorem d_Tri_putIn_56 : decode prog_1_method_28_code 56 = .ok (.aload_n 3, 1) := by decide +kernel
theorem d_Tri_putIn_57 : decode prog_1_method_28_code 57 = .ok (.aload_n 1, 1) := by decide +kernel
theorem d_Tri_putIn_58 : decode prog_1_method_28_code 58 = .ok (.invokevirtual 198, 3) := by decide +kernel
theorem d_Tri_putIn_61 : decode prog_1_method_28_code 61 = .ok (.return_, 1) := by decide +kernel
theorem d_Tri_putAt_0 : decode prog_1_method_29_code 0 = .ok (.aload_n 0, 1) := by decide +kernel
theorem d_Tri_putAt_1 : decode prog_1_method_29_code 1 = .ok (.getfield 170, 3) := by decide +kernel
theorem d_Tri_putAt_4 : decode prog_1_method_29_code 4 = .ok (.iload_n 1, 1) := by decide +kernel
theorem d_Tri_putAt_5 : decode prog_1_method_29_code 5 = .ok (.aaload, 1) := by decide +kernel
theorem d_Tri_putAt_6 : decode prog_1_method_29_code 6 = .ok (.astore 5, 2) := by decide +kernel
theorem d_Tri_putAt_8 : decode prog_1_method_29_code 8 = .ok (.aload 5, 2) := by decide +kernel
theorem d_Tri_putAt_10 : decode prog_1_method_29_code 10 = .ok (.ifnull 15, 3) := by decide +kernel
theorem d_Tri_putAt_13 : decode prog_1_method_29_code 13 = .ok (.aload 5, 2) := by decide +kernel
theorem d_Tri_putAt_15 : decode prog_1_method_29_code 15 = .ok (.getfield 117, 3) := by decide +kernel
theorem d_Tri_putAt_18 : decode prog_1_method_29_code 18 = .ok (.aload_n 3, 1) := by decide +kernel
theorem d_Tri_putAt_19 : decode prog_1_method_29_code 19 = .ok (.getfield 117, 3) := by decide +kernel
theorem d_Tri_putAt_22 : decode prog_1_method_29_code 22 = .ok (.if_icmp .ne 11, 3) := by decide +kernel
theorem d_Tri_putAt_25 : decode prog_1_method_29_code 25 = .ok (.aload_n 0, 1) := by decide +kernel
theorem d_Tri_putAt_26 : decode prog_1_method_29_code 26 = .ok (.getfield 170, 3) := by decide +kernel
theorem d_Tri_putAt_29 : decode prog_1_method_29_code 29 = .ok (.iload_n 1, 1) := by decide +kernel
theorem d_Tri_putAt_30 : decode prog_1_method_29_code 30 = .ok (.aload_n 3, 1) := by decide +kernel
theorem d_Tri_putAt_31 : decode prog_1_method_29_code 31 = .ok (.aastore, 1) := by decide +kernel
theorem d_Tri_putAt_32 : decode prog_1_method_29_code 32 = .ok (.return_, 1) := by decide +kernel
theorem d_Tri_putAt_33 : decode prog_1_method_29_code 33 = .ok (.aload_n 0, 1) := by decide +kernel
theorem d_Tri_putAt_34 : decode prog_1_method_29_code 34 = .ok (.getfield 170, 3) := by decide +kernel
theorem d_Tri_putAt_37 : decode prog_1_method_29_code 37 = .ok (.iload_n 1, 1) := by decide +kernel
theorem d_Tri_putAt_38 : decode prog_1_method_29_code 38 = .ok (.aconst_null, 1) := by decide +kernel
theorem d_Tri_putAt_39 : decode prog_1_method_29_code 39 = .ok (.aastore, 1) := by decide +kernel
theorem d_Tri_putAt_40 : decode prog_1_method_29_code 40 = .ok (.aload_n 0, 1) := by decide +kernel
theorem d_Tri_putAt_41 : decode prog_1_method_29_code 41 = .ok (.getfield 167, 3) := by decide +kernel
theorem d_Tri_putAt_44 : decode prog_1_method_29_code 44 = .ok (.iload_n 1, 1) := by decide +kernel
theorem d_Tri_putAt_45 : decode prog_1_method_29_code 45 = .ok (.aload 5, 2) := by decide +kernel
theorem d_Tri_putAt_47 : decode prog_1_method_29_code 47 = .ok (.aload_n 3, 1) := by decide +kernel
theorem d_Tri_putAt_48 : decode prog_1_method_29_code 48 = .ok (.iload 4, 2) := by decide +kernel
theorem d_Tri_putAt_50 : decode prog_1_method_29_code 50 = .ok (.iload_n 2, 1) := by decide +kernel
theorem d_Tri_putAt_51 : decode prog_1_method_29_code 51 = .ok (.iconst 1, 1) := by decide +kernel
theorem d_Tri_putAt_52 : decode prog_1_method_29_code 52 = .ok (.iadd, 1) := by decide +kernel
theorem d_Tri_putAt_53 : decode prog_1_method_29_code 53 = .ok (.invokestatic 202, 3) := by decide +kernel
theorem d_Tri_putAt_56 : decode prog_1_method_29_code 56 = .ok (.aastore, 1) := by decide +kernel
theorem d_Tri_putAt_57 : decode prog_1_method_29_code 57 = .ok (.return_, 1) := by decide +kernel
theorem d_Tri_nodeOfTwo_0 : decode prog_1_method_30_code 0 = .ok (.new 25, 3) := by decide +kernel
theorem d_Tri_nodeOfTwo_3 : decode prog_1_method_30_code 3 = .ok (.dup, 1) := by decide +kernel
theorem d_Tri_nodeOfTwo_4 : decode prog_1_method_30_code 4 = .ok (.iload_n 2, 1) := by decide +kernel
theorem d_Tri_nodeOfTwo_5 : decode prog_1_method_30_code 5 = .ok (.iload_n 3, 1) := by decide +kernel
theorem d_Tri_nodeOfTwo_6 : decode prog_1_method_30_code 6 = .ok (.invokespecial 27, 3) := by decide +kernel
theorem d_Tri_nodeOfTwo_9 : decode prog_1_method_30_code 9 = .ok (.astore 4, 2) := by decide +kernel
theorem d_Tri_nodeOfTwo_11 : decode prog_1_method_30_code 11 = .ok (.iload_n 3, 1) := by decide +kernel
theorem d_Tri_nodeOfTwo_12 : decode prog_1_method_30_code 12 = .ok (.iconst 4, 1) := by decide +kernel
theorem d_Tri_nodeOfTwo_13 : decode prog_1_method_30_code 13 = .ok (.if_icmp .lt 18, 3) := by decide +kernel
theorem d_Tri_nodeOfTwo_16 : decode prog_1_method_30_code 16 = .ok (.aload 4, 2) := by decide +kernel
theorem d_Tri_nodeOfTwo_18 : decode prog_1_method_30_code 18 = .ok (.aload_n 0, 1) := by decide +kernel
theorem d_Tri_nodeOfTwo_19 : decode prog_1_method_30_code 19 = .ok (.invokevirtual 198, 3) := by decide +kernel
theorem d_Tri_nodeOfTwo_22 : decode prog_1_method_30_code 22 = .ok (.aload 4, 2) := by decide +kernel
theorem d_Tri_nodeOfTwo_24 : decode prog_1_method_30_code 24 = .ok (.aload_n 1, 1) := by decide +kernel
theorem d_Tri_nodeOfTwo_25 : decode prog_1_method_30_code 25 = .ok (.invokevirtual 198, 3) := by decide +kernel
theorem d_Tri_nodeOfTwo_28 : decode prog_1_method_30_code 28 = .ok (.aload 4, 2) := by decide +kernel
theorem d_Tri_nodeOfTwo_30 : decode prog_1_method_30_code 30 = .ok (.areturn, 1) := by decide +kernel
theorem d_Tri_nodeOfTwo_31 : decode prog_1_method_30_code 31 = .ok (.aload_n 0, 1) := by decide +kernel
theorem d_Tri_nodeOfTwo_32 : decode prog_1_method_30_code 32 = .ok (.getfield 117, 3) := by decide +kernel
theorem d_Tri_nodeOfTwo_35 : decode prog_1_method_30_code 35 = .ok (.iload_n 3, 1) := by decide +kernel
theorem d_Tri_nodeOfTwo_36 : decode prog_1_method_30_code 36 = .ok (.invokestatic 163, 3) := by decide +kernel
theorem d_Tri_nodeOfTwo_39 : decode prog_1_method_30_code 39 = .ok (.istore 5, 2) := by decide +kernel
theorem d_Tri_nodeOfTwo_41 : decode prog_1_method_30_code 41 = .ok (.aload_n 1, 1) := by decide +kernel
theorem d_Tri_nodeOfTwo_42 : decode prog_1_method_30_code 42 = .ok (.getfield 117, 3) := by decide +kernel
theorem d_Tri_nodeOfTwo_45 : decode prog_1_method_30_code 45 = .ok (.iload_n 3, 1) := by decide +kernel
theorem d_Tri_nodeOfTwo_46 : decode prog_1_method_30_code 46 = .ok (.invokestatic 163, 3) := by decide +kernel
theorem d_Tri_nodeOfTwo_49 : decode prog_1_method_30_code 49 = .ok (.istore 6, 2) := by decide +kernel
theorem d_Tri_nodeOfTwo_51 : decode prog_1_method_30_code 51 = .ok (.iload 5, 2) := by decide +kernel
theorem d_Tri_nodeOfTwo_53 : decode prog_1_method_30_code 53 = .ok (.iload 6, 2) := by decide +kernel
theorem d_Tri_nodeOfTwo_55 : decode prog_1_method_30_code 55 = .ok (.if_icmp .ne 23, 3) := by decide +kernel
theorem d_Tri_nodeOfTwo_58 : decode prog_1_method_30_code 58 = .ok (.aload 4, 2) := by decide +kernel
theorem d_Tri_nodeOfTwo_60 : decode prog_1_method_30_code 60 = .ok (.getfield 167, 3) := by decide +kernel
theorem d_Tri_nodeOfTwo_63 : decode prog_1_method_30_code 63 = .ok (.iload 5, 2) := by decide +kernel
theorem d_Tri_nodeOfTwo_65 : decode prog_1_method_30_code 65 = .ok (.aload_n 0, 1) := by decide +kernel
theorem d_Tri_nodeOfTwo_66 : decode prog_1_method_30_code 66 = .ok (.aload_n 1, 1) := by decide +kernel
theorem d_Tri_nodeOfTwo_67 : decode prog_1_method_30_code 67 = .ok (.iload_n 2, 1) := by decide +kernel
theorem d_Tri_nodeOfTwo_68 : decode prog_1_method_30_code 68 = .ok (.iload_n 3, 1) := by decide +kernel
theorem d_Tri_nodeOfTwo_69 : decode prog_1_method_30_code 69 = .ok (.iconst 1, 1) := by decide +kernel
theorem d_Tri_nodeOfTwo_70 : decode prog_1_method_30_code 70 = .ok (.iadd, 1) := by decide +kernel
theorem d_Tri_nodeOfTwo_71 : decode prog_1_method_30_code 71 = .ok (.invokestatic 202, 3) := by decide +kernel
theorem d_Tri_nodeOfTwo_74 : decode prog_1_method_30_code 74 = .ok (.aastore, 1) := by decide +kernel
theorem d_Tri_nodeOfTwo_75 : decode prog_1_method_30_code 75 = .ok (.goto 21, 3) := by decide +kernel
theorem d_Tri_nodeOfTwo_78 : decode prog_1_method_30_code 78 = .ok (.aload 4, 2) := by decide +kernel
theorem d_Tri_nodeOfTwo_80 : decode prog_1_method_30_code 80 = .ok (.getfield 170, 3) := by decide +kernel
theorem d_Tri_nodeOfTwo_83 : decode prog_1_method_30_code 83 = .ok (.iload 5, 2) := by decide +kernel
theorem d_Tri_nodeOfTwo_85 : decode prog_1_method_30_code 85 = .ok (.aload_n 0, 1) := by decide +kernel
theorem d_Tri_nodeOfTwo_86 : decode prog_1_method_30_code 86 = .ok (.aastore, 1) := by decide +kernel
theorem d_Tri_nodeOfTwo_87 : decode prog_1_method_30_code 87 = .ok (.aload 4, 2) := by decide +kernel
theorem d_Tri_nodeOfTwo_89 : decode prog_1_method_30_code 89 = .ok (.getfield 170, 3) := by decide +kernel
theorem d_Tri_nodeOfTwo_92 : decode prog_1_method_30_code 92 = .ok (.iload 6, 2) := by decide +kernel
theorem d_Tri_nodeOfTwo_94 : decode prog_1_method_30_code 94 = .ok (.aload_n 1, 1) := by decide +kernel
theorem d_Tri_nodeOfTwo_95 : decode prog_1_method_30_code 95 = .ok (.aastore, 1) := by decide +kernel
theorem d_Tri_nodeOfTwo_96 : decode prog_1_method_30_code 96 = .ok (.aload 4, 2) := by decide +kernel
theorem d_Tri_nodeOfTwo_98 : decode prog_1_method_30_code 98 = .ok (.areturn, 1) := by decide +kernel
theorem d_Tri_takeOut_0 : decode prog_1_method_31_code 0 = .ok (.iload_n 1, 1) := by decide +kernel
theorem d_Tri_takeOut_1 : decode prog_1_method_31_code 1 = .ok (.iconst 4, 1) := by decide +kernel
theorem d_Tri_takeOut_2 : decode prog_1_method_31_code 2 = .ok (.if_icmp .lt 9, 3) := by decide +kernel
theorem d_Tri_takeOut_5 : decode prog_1_method_31_code 5 = .ok (.aload_n 0, 1) := by decide +kernel
theorem d_Tri_takeOut_6 : decode prog_1_method_31_code 6 = .ok (.iload_n 2, 1) := by decide +kernel
theorem d_Tri_takeOut_7 : decode prog_1_method_31_code 7 = .ok (.invokevirtual 206, 3) := by decide +kernel
theorem d_Tri_takeOut_10 : decode prog_1_method_31_code 10 = .ok (.return_, 1) := by decide +kernel
theorem d_Tri_takeOut_11 : decode prog_1_method_31_code 11 = .ok (.iload_n 2, 1) := by decide +kernel
theorem d_Tri_takeOut_12 : decode prog_1_method_31_code 12 = .ok (.iload_n 1, 1) := by decide +kernel
theorem d_Tri_takeOut_13 : decode prog_1_method_31_code 13 = .ok (.invokestatic 163, 3) := by decide +kernel
theorem d_Tri_takeOut_16 : decode prog_1_method_31_code 16 = .ok (.istore_n 3, 1) := by decide +kernel
theorem d_Tri_takeOut_17 : decode prog_1_method_31_code 17 = .ok (.aload_n 0, 1) := by decide +kernel
theorem d_Tri_takeOut_18 : decode prog_1_method_31_code 18 = .ok (.getfield 167, 3) := by decide +kernel
theorem d_Tri_takeOut_21 : decode prog_1_method_31_code 21 = .ok (.iload_n 3, 1) := by decide +kernel
theorem d_Tri_takeOut_22 : decode prog_1_method_31_code 22 = .ok (.aaload, 1) := by decide +kernel
theorem d_Tri_takeOut_23 : decode prog_1_method_31_code 23 = .ok (.astore 4, 2) := by decide +kernel
theorem d_Tri_takeOut_25 : decode prog_1_method_31_code 25 = .ok (.aload 4, 2) := by decide +kernel
theorem d_Tri_takeOut_27 : decode prog_1_method_31_code 27 = .ok (.ifnonnull 11, 3) := by decide +kernel
theorem d_Tri_takeOut_30 : decode prog_1_method_31_code 30 = .ok (.aload_n 0, 1) := by decide +kernel
theorem d_Tri_takeOut_31 : decode prog_1_method_31_code 31 = .ok (.getfield 170, 3) := by decide +kernel
theorem d_Tri_takeOut_34 : decode prog_1_method_31_code 34 = .ok (.iload_n 3, 1) := by decide +kernel
theorem d_Tri_takeOut_35 : decode prog_1_method_31_code 35 = .ok (.aconst_null, 1) := by decide +kernel
theorem d_Tri_takeOut_36 : decode prog_1_method_31_code 36 = .ok (.aastore, 1) := by decide +kernel
theorem d_Tri_takeOut_37 : decode prog_1_method_31_code 37 = .ok (.return_, 1) := by decide +kernel
theorem d_Tri_takeOut_38 : decode prog_1_method_31_code 38 = .ok (.aload 4, 2) := by decide +kernel
theorem d_Tri_takeOut_40 : decode prog_1_method_31_code 40 = .ok (.iload_n 1, 1) := by decide +kernel
theorem d_Tri_takeOut_41 : decode prog_1_method_31_code 41 = .ok (.iconst 1, 1) := by decide +kernel
theorem d_Tri_takeOut_42 : decode prog_1_method_31_code 42 = .ok (.iadd, 1) := by decide +kernel
theorem d_Tri_takeOut_43 : decode prog_1_method_31_code 43 = .ok (.iload_n 2, 1) := by decide +kernel
theorem d_Tri_takeOut_44 : decode prog_1_method_31_code 44 = .ok (.invokestatic 79, 3) := by decide +kernel
theorem d_Tri_takeOut_47 : decode prog_1_method_31_code 47 = .ok (.aload 4, 2) := by decide +kernel
theorem d_Tri_takeOut_49 : decode prog_1_method_31_code 49 = .ok (.invokevirtual 209, 3) := by decide +kernel
theorem d_Tri_takeOut_52 : decode prog_1_method_31_code 52 = .ok (.astore 5, 2) := by decide +kernel
theorem d_Tri_takeOut_54 : decode prog_1_method_31_code 54 = .ok (.aload 5, 2) := by decide +kernel
theorem d_Tri_takeOut_56 : decode prog_1_method_31_code 56 = .ok (.ifnull 18, 3) := by decide +kernel
theorem d_Tri_takeOut_59 : decode prog_1_method_31_code 59 = .ok (.aload_n 0, 1) := by decide +kernel
theorem d_Tri_takeOut_60 : decode prog_1_method_31_code 60 = .ok (.getfield 167, 3) := by decide +kernel
theorem d_Tri_takeOut_63 : decode prog_1_method_31_code 63 = .ok (.iload_n 3, 1) := by decide +kernel
theorem d_Tri_takeOut_64 : decode prog_1_method_31_code 64 = .ok (.aconst_null, 1) := by decide +kernel
theorem d_Tri_takeOut_65 : decode prog_1_method_31_code 65 = .ok (.aastore, 1) := by decide +kernel
theorem d_Tri_takeOut_66 : decode prog_1_method_31_code 66 = .ok (.aload_n 0, 1) := by decide +kernel
theorem d_Tri_takeOut_67 : decode prog_1_method_31_code 67 = .ok (.getfield 170, 3) := by decide +kernel
theorem d_Tri_takeOut_70 : decode prog_1_method_31_code 70 = .ok (.iload_n 3, 1) := by decide +kernel
theorem d_Tri_takeOut_71 : decode prog_1_method_31_code 71 = .ok (.aload 5, 2) := by decide +kernel
theorem d_Tri_takeOut_73 : decode prog_1_method_31_code 73 = .ok (.aastore, 1) := by decide +kernel
theorem d_Tri_takeOut_74 : decode prog_1_method_31_code 74 = .ok (.return_, 1) := by decide +kernel
theorem d_Tri_countKeys_0 : decode prog_1_method_32_code 0 = .ok (.new 120, 3) := by decide +kernel
theorem d_Tri_countKeys_3 : decode prog_1_method_32_code 3 = .ok (.dup, 1) := by decide +kernel
theorem d_Tri_countKeys_4 : decode prog_1_method_32_code 4 = .ok (.iconst (-1), 1) := by decide +kernel
theorem d_Tri_countKeys_5 : decode prog_1_method_32_code 5 = .ok (.invokespecial 122, 3) := by decide +kernel
theorem d_Tri_countKeys_8 : decode prog_1_method_32_code 8 = .ok (.astore_n 1, 1) := by decide +kernel
theorem d_Tri_countKeys_9 : decode prog_1_method_32_code 9 = .ok (.aload_n 0, 1) := by decide +kernel
theorem d_Tri_countKeys_10 : decode prog_1_method_32_code 10 = .ok (.iconst 0, 1) := by decide +kernel
theorem d_Tri_countKeys_11 : decode prog_1_method_32_code 11 = .ok (.aload_n 1, 1) := by decide +kernel
theorem d_Tri_countKeys_12 : decode prog_1_method_32_code 12 = .ok (.invokestatic 125, 3) := by decide +kernel
theorem d_Tri_countKeys_15 : decode prog_1_method_32_code 15 = .ok (.aload_n 1, 1) := by decide +kernel
theorem d_Tri_countKeys_16 : decode prog_1_method_32_code 16 = .ok (.getfield 129, 3) := by decide +kernel
theorem d_Tri_countKeys_19 : decode prog_1_method_32_code 19 = .ok (.ireturn, 1) := by decide +kernel
theorem d_Tri_addUp_0 : decode prog_1_method_33_code 0 = .ok (.aload_n 0, 1) := by decide +kernel
theorem d_Tri_addUp_1 : decode prog_1_method_33_code 1 = .ok (.ifnull 8, 3) := by decide +kernel
theorem d_Tri_addUp_4 : decode prog_1_method_33_code 4 = .ok (.iload_n 1, 1) := by decide +kernel
theorem d_Tri_addUp_5 : decode prog_1_method_33_code 5 = .ok (.iconst 4, 1) := by decide +kernel
theorem d_Tri_addUp_6 : decode prog_1_method_33_code 6 = .ok (.if_icmp .le 4, 3) := by decide +kernel
theorem d_Tri_addUp_9 : decode prog_1_method_33_code 9 = .ok (.return_, 1) := by decide +kernel
theorem d_Tri_addUp_10 : decode prog_1_method_33_code 10 = .ok (.aload_n 2, 1) := by decide +kernel
theorem d_Tri_addUp_11 : decode prog_1_method_33_code 11 = .ok (.aload_n 0, 1) := by decide +kernel
theorem d_Tri_addUp_12 : decode prog_1_method_33_code 12 = .ok (.iload_n 1, 1) := by decide +kernel
theorem d_Tri_addUp_13 : decode prog_1_method_33_code 13 = .ok (.invokevirtual 212, 3) := by decide +kernel
theorem d_Tri_addUp_16 : decode prog_1_method_33_code 16 = .ok (.iconst 0, 1) := by decide +kernel
theorem d_Tri_addUp_17 : decode prog_1_method_33_code 17 = .ok (.istore_n 3, 1) := by decide +kernel
theorem d_Tri_addUp_18 : decode prog_1_method_33_code 18 = .ok (.iload_n 3, 1) := by decide +kernel
theorem d_Tri_addUp_19 : decode prog_1_method_33_code 19 = .ok (.aload_n 0, 1) := by decide +kernel
theorem d_Tri_addUp_20 : decode prog_1_method_33_code 20 = .ok (.getfield 167, 3) := by decide +kernel
theorem d_Tri_addUp_23 : decode prog_1_method_33_code 23 = .ok (.arraylength, 1) := by decide +kernel
theorem d_Tri_addUp_24 : decode prog_1_method_33_code 24 = .ok (.if_icmp .ge 22, 3) := by decide +kernel
theorem d_Tri_addUp_27 : decode prog_1_method_33_code 27 = .ok (.aload_n 0, 1) := by decide +kernel
theorem d_Tri_addUp_28 : decode prog_1_method_33_code 28 = .ok (.getfield 167, 3) := by decide +kernel
theorem d_Tri_addUp_31 : decode prog_1_method_33_code 31 = .ok (.iload_n 3, 1) := by decide +kernel
theorem d_Tri_addUp_32 : decode prog_1_method_33_code 32 = .ok (.aaload, 1) := by decide +kernel
theorem d_Tri_addUp_33 : decode prog_1_method_33_code 33 = .ok (.iload_n 1, 1) := by decide +kernel
theorem d_Tri_addUp_34 : decode prog_1_method_33_code 34 = .ok (.iconst 1, 1) := by decide +kernel
theorem d_Tri_addUp_35 : decode prog_1_method_33_code 35 = .ok (.iadd, 1) := by decide +kernel
theorem d_Tri_addUp_36 : decode prog_1_method_33_code 36 = .ok (.aload_n 2, 1) := by decide +kernel
theorem d_Tri_addUp_37 : decode prog_1_method_33_code 37 = .ok (.invokestatic 125, 3) := by decide +kernel
theorem d_Tri_addUp_40 : decode prog_1_method_33_code 40 = .ok (.iinc 3 1, 3) := by decide +kernel
theorem d_Tri_addUp_43 : decode prog_1_method_33_code 43 = .ok (.goto (-25), 3) := by decide +kernel
theorem d_Tri_addUp_46 : decode prog_1_method_33_code 46 = .ok (.return_, 1) := by decide +kernel
theorem d_Tri_countShared_0 : decode prog_1_method_34_code 0 = .ok (.aload_n 0, 1) := by decide +kernel
theorem d_Tri_countShared_1 : decode prog_1_method_34_code 1 = .ok (.ifnull 12, 3) := by decide +kernel
theorem d_Tri_countShared_4 : decode prog_1_method_34_code 4 = .ok (.aload_n 1, 1) := by decide +kernel
theorem d_Tri_countShared_5 : decode prog_1_method_34_code 5 = .ok (.ifnull 8, 3) := by decide +kernel
theorem d_Tri_countShared_8 : decode prog_1_method_34_code 8 = .ok (.iload_n 2, 1) := by decide +kernel
theorem d_Tri_countShared_9 : decode prog_1_method_34_code 9 = .ok (.iconst 4, 1) := by decide +kernel
theorem d_Tri_countShared_10 : decode prog_1_method_34_code 10 = .ok (.if_icmp .le 5, 3) := by decide +kernel
theorem d_Tri_countShared_13 : decode prog_1_method_34_code 13 = .ok (.iconst 0, 1) := by decide +kernel
theorem d_Tri_countShared_14 : decode prog_1_method_34_code 14 = .ok (.ireturn, 1) := by decide +kernel
theorem d_Tri_countShared_15 : decode prog_1_method_34_code 15 = .ok (.aload_n 0, 1) := by decide +kernel
theorem d_Tri_countShared_16 : decode prog_1_method_34_code 16 = .ok (.aload_n 1, 1) := by decide +kernel
theorem d_Tri_countShared_17 : decode prog_1_method_34_code 17 = .ok (.if_acmp .ne 7, 3) := by decide +kernel
theorem d_Tri_countShared_20 : decode prog_1_method_34_code 20 = .ok (.iconst 1, 1) := by decide +kernel
theorem d_Tri_countShared_21 : decode prog_1_method_34_code 21 = .ok (.goto 4, 3) := by decide +kernel
theorem d_Tri_countShared_24 : decode prog_1_method_34_code 24 = .ok (.iconst 0, 1) := by decide +kernel
theorem d_Tri_countShared_25 : decode prog_1_method_34_code 25 = .ok (.istore_n 3, 1) := by decide +kernel
theorem d_Tri_countShared_26 : decode prog_1_method_34_code 26 = .ok (.iconst 0, 1) := by decide +kernel
theorem d_Tri_countShared_27 : decode prog_1_method_34_code 27 = .ok (.istore 4, 2) := by decide +kernel
theorem d_Tri_countShared_29 : decode prog_1_method_34_code 29 = .ok (.iload 4, 2) := by decide +kernel
theorem d_Tri_countShared_31 : decode prog_1_method_34_code 31 = .ok (.aload_n 0, 1) := by decide +kernel
theorem d_Tri_countShared_32 : decode prog_1_method_34_code 32 = .ok (.getfield 167, 3) := by decide +kernel
theorem d_Tri_countShared_35 : decode prog_1_method_34_code 35 = .ok (.arraylength, 1) := by decide +kernel
theorem d_Tri_countShared_36 : decode prog_1_method_34_code 36 = .ok (.if_icmp .ge 31, 3) := by decide +kernel
theorem d_Tri_countShared_39 : decode prog_1_method_34_code 39 = .ok (.iload_n 3, 1) := by decide +kernel
theorem d_Tri_countShared_40 : decode prog_1_method_34_code 40 = .ok (.aload_n 0, 1) := by decide +kernel
theorem d_Tri_countShared_41 : decode prog_1_method_34_code 41 = .ok (.getfield 167, 3) := by decide +kernel
theorem d_Tri_countShared_44 : decode prog_1_method_34_code 44 = .ok (.iload 4, 2) := by decide +kernel
theorem d_Tri_countShared_46 : decode prog_1_method_34_code 46 = .ok (.aaload, 1) := by decide +kernel
theorem d_Tri_countShared_47 : decode prog_1_method_34_code 47 = .ok (.aload_n 1, 1) := by decide +kernel
theorem d_Tri_countShared_48 : decode prog_1_method_34_code 48 = .ok (.iload 4, 2) := by decide +kernel
theorem d_Tri_countShared_50 : decode prog_1_method_34_code 50 = .ok (.invokevirtual 190, 3) := by decide +kernel
theorem d_Tri_countShared_53 : decode prog_1_method_34_code 53 = .ok (.iload_n 2, 1) := by decide +kernel
theorem d_Tri_countShared_54 : decode prog_1_method_34_code 54 = .ok (.iconst 1, 1) := by decide +kernel
theorem d_Tri_countShared_55 : decode prog_1_method_34_code 55 = .ok (.iadd, 1) := by decide +kernel
theorem d_Tri_countShared_56 : decode prog_1_method_34_code 56 = .ok (.invokestatic 147, 3) := by decide +kernel
theorem d_Tri_countShared_59 : decode prog_1_method_34_code 59 = .ok (.iadd, 1) := by decide +kernel
theorem d_Tri_countShared_60 : decode prog_1_method_34_code 60 = .ok (.istore_n 3, 1) := by decide +kernel
theorem d_Tri_countShared_61 : decode prog_1_method_34_code 61 = .ok (.iinc 4 1, 3) := by decide +kernel
theorem d_Tri_countShared_64 : decode prog_1_method_34_code 64 = .ok (.goto (-35), 3) := by decide +kernel
theorem d_Tri_countShared_67 : decode prog_1_method_34_code 67 = .ok (.iload_n 3, 1) := by decide +kernel
theorem d_Tri_countShared_68 : decode prog_1_method_34_code 68 = .ok (.ireturn, 1) := by decide +kernel

theorem d_Cur_init_0 : decode prog_2_method_1_code 0 = .ok (.aload_n 0, 1) := by decide +kernel
theorem d_Cur_init_1 : decode prog_2_method_1_code 1 = .ok (.invokespecial 3, 3) := by decide +kernel
theorem d_Cur_init_4 : decode prog_2_method_1_code 4 = .ok (.aload_n 0, 1) := by decide +kernel
theorem d_Cur_init_5 : decode prog_2_method_1_code 5 = .ok (.iconst 5, 1) := by decide +kernel
theorem d_Cur_init_6 : decode prog_2_method_1_code 6 = .ok (.anewarray 9, 3) := by decide +kernel
theorem d_Cur_init_9 : decode prog_2_method_1_code 9 = .ok (.putfield 11, 3) := by decide +kernel
theorem d_Cur_init_12 : decode prog_2_method_1_code 12 = .ok (.aload_n 0, 1) := by decide +kernel
theorem d_Cur_init_13 : decode prog_2_method_1_code 13 = .ok (.iconst 5, 1) := by decide +kernel
theorem d_Cur_init_14 : decode prog_2_method_1_code 14 = .ok (.newarray .int, 2) := by decide +kernel
theorem d_Cur_init_16 : decode prog_2_method_1_code 16 = .ok (.putfield 17, 3) := by decide +kernel
theorem d_Cur_init_19 : decode prog_2_method_1_code 19 = .ok (.aload_n 0, 1) := by decide +kernel
theorem d_Cur_init_20 : decode prog_2_method_1_code 20 = .ok (.getfield 11, 3) := by decide +kernel
theorem d_Cur_init_23 : decode prog_2_method_1_code 23 = .ok (.iconst 0, 1) := by decide +kernel
theorem d_Cur_init_24 : decode prog_2_method_1_code 24 = .ok (.aload_n 1, 1) := by decide +kernel
theorem d_Cur_init_25 : decode prog_2_method_1_code 25 = .ok (.aastore, 1) := by decide +kernel
theorem d_Cur_init_26 : decode prog_2_method_1_code 26 = .ok (.aload_n 0, 1) := by decide +kernel
theorem d_Cur_init_27 : decode prog_2_method_1_code 27 = .ok (.iconst 0, 1) := by decide +kernel
theorem d_Cur_init_28 : decode prog_2_method_1_code 28 = .ok (.putfield 21, 3) := by decide +kernel
theorem d_Cur_init_31 : decode prog_2_method_1_code 31 = .ok (.return_, 1) := by decide +kernel
theorem d_Cur_advance_0 : decode prog_2_method_2_code 0 = .ok (.iconst 0, 1) := by decide +kernel
theorem d_Cur_advance_1 : decode prog_2_method_2_code 1 = .ok (.istore_n 1, 1) := by decide +kernel
theorem d_Cur_advance_2 : decode prog_2_method_2_code 2 = .ok (.iload_n 1, 1) := by decide +kernel
theorem d_Cur_advance_3 : decode prog_2_method_2_code 3 = .ok (.ldc 25, 2) := by decide +kernel
theorem d_Cur_advance_5 : decode prog_2_method_2_code 5 = .ok (.if_icmp .ge 99, 3) := by decide +kernel
theorem d_Cur_advance_8 : decode prog_2_method_2_code 8 = .ok (.aload_n 0, 1) := by decide +kernel
theorem d_Cur_advance_9 : decode prog_2_method_2_code 9 = .ok (.getfield 21, 3) := by decide +kernel
theorem d_Cur_advance_12 : decode prog_2_method_2_code 12 = .ok (.ifCond .lt 92, 3) := by decide +kernel
theorem d_Cur_advance_15 : decode prog_2_method_2_code 15 = .ok (.aload_n 0, 1) := by decide +kernel
theorem d_Cur_advance_16 : decode prog_2_method_2_code 16 = .ok (.getfield 11, 3) := by decide +kernel
theorem d_Cur_advance_19 : decode prog_2_method_2_code 19 = .ok (.aload_n 0, 1) := by decide +kernel
theorem d_Cur_advance_20 : decode prog_2_method_2_code 20 = .ok (.getfield 21, 3) := by decide +kernel
theorem d_Cur_advance_23 : decode prog_2_method_2_code 23 = .ok (.aaload, 1) := by decide +kernel
theorem d_Cur_advance_24 : decode prog_2_method_2_code 24 = .ok (.astore_n 2, 1) := by decide +kernel
theorem d_Cur_advance_25 : decode prog_2_method_2_code 25 = .ok (.aload_n 0, 1) := by decide +kernel
theorem d_Cur_advance_26 : decode prog_2_method_2_code 26 = .ok (.getfield 17, 3) := by decide +kernel
theorem d_Cur_advance_29 : decode prog_2_method_2_code 29 = .ok (.aload_n 0, 1) := by decide +kernel
theorem d_Cur_advance_30 : decode prog_2_method_2_code 30 = .ok (.getfield 21, 3) := by decide +kernel
theorem d_Cur_advance_33 : decode prog_2_method_2_code 33 = .ok (.iaload, 1) := by decide +kernel
theorem d_Cur_advance_34 : decode prog_2_method_2_code 34 = .ok (.istore_n 3, 1) := by decide +kernel
theorem d_Cur_advance_35 : decode prog_2_method_2_code 35 = .ok (.aload_n 2, 1) := by decide +kernel
theorem d_Cur_advance_36 : decode prog_2_method_2_code 36 = .ok (.ifnull 12, 3) := by decide +kernel
theorem d_Cur_advance_39 : decode prog_2_method_2_code 39 = .ok (.iload_n 3, 1) := by decide +kernel
theorem d_Cur_advance_40 : decode prog_2_method_2_code 40 = .ok (.aload_n 2, 1) := by decide +kernel
theorem d_Cur_advance_41 : decode prog_2_method_2_code 41 = .ok (.getfield 26, 3) := by decide +kernel
theorem d_Cur_advance_44 : decode prog_2_method_2_code 44 = .ok (.arraylength, 1) := by decide +kernel
theorem d_Cur_advance_45 : decode prog_2_method_2_code 45 = .ok (.if_icmp .lt 16, 3) := by decide +kernel
theorem d_Cur_advance_48 : decode prog_2_method_2_code 48 = .ok (.aload_n 0, 1) := by decide +kernel
theorem d_Cur_advance_49 : decode prog_2_method_2_code 49 = .ok (.dup, 1) := by decide +kernel
theorem d_Cur_advance_50 : decode prog_2_method_2_code 50 = .ok (.getfield 21, 3) := by decide +kernel
theorem d_Cur_advance_53 : decode prog_2_method_2_code 53 = .ok (.iconst 1, 1) := by decide +kernel
theorem d_Cur_advance_54 : decode prog_2_method_2_code 54 = .ok (.isub, 1) := by decide +kernel
theorem d_Cur_advance_55 : decode prog_2_method_2_code 55 = .ok (.putfield 21, 3) := by decide +kernel
theorem d_Cur_advance_58 : decode prog_2_method_2_code 58 = .ok (.goto 40, 3) := by decide +kernel
theorem d_Cur_advance_61 : decode prog_2_method_2_code 61 = .ok (.aload_n 0, 1) := by decide +kernel
theorem d_Cur_advance_62 : decode prog_2_method_2_code 62 = .ok (.getfield 17, 3) := by decide +kernel
theorem d_Cur_advance_65 : decode prog_2_method_2_code 65 = .ok (.aload_n 0, 1) := by decide +kernel
theorem d_Cur_advance_66 : decode prog_2_method_2_code 66 = .ok (.getfield 21, 3) := by decide +kernel
theorem d_Cur_advance_69 : decode prog_2_method_2_code 69 = .ok (.iload_n 3, 1) := by decide +kernel
theorem d_Cur_advance_70 : decode prog_2_method_2_code 70 = .ok (.iconst 1, 1) := by decide +kernel
theorem d_Cur_advance_71 : decode prog_2_method_2_code 71 = .ok (.iadd, 1) := by decide +kernel
theorem d_Cur_advance_72 : decode prog_2_method_2_code 72 = .ok (.iastore, 1) := by decide +kernel
theorem d_Cur_advance_73 : decode prog_2_method_2_code 73 = .ok (.aload_n 2, 1) := by decide +kernel
theorem d_Cur_advance_74 : decode prog_2_method_2_code 74 = .ok (.getfield 26, 3) := by decide +kernel
theorem d_Cur_advance_77 : decode prog_2_method_2_code 77 = .ok (.iload_n 3, 1) := by decide +kernel
theorem d_Cur_advance_78 : decode prog_2_method_2_code 78 = .ok (.aaload, 1) := by decide +kernel
theorem d_Cur_advance_79 : decode prog_2_method_2_code 79 = .ok (.ifnull 10, 3) := by decide +kernel
theorem d_Cur_advance_82 : decode prog_2_method_2_code 82 = .ok (.aload_n 2, 1) := by decide +kernel
theorem d_Cur_advance_83 : decode prog_2_method_2_code 83 = .ok (.getfield 26, 3) := by decide +kernel
theorem d_Cur_advance_86 : decode prog_2_method_2_code 86 = .ok (.iload_n 3, 1) := by decide +kernel
theorem d_Cur_advance_87 : decode prog_2_method_2_code 87 = .ok (.aaload, 1) := by decide +kernel
theorem d_Cur_advance_88 : decode prog_2_method_2_code 88 = .ok (.areturn, 1) := by decide +kernel
theorem d_Cur_advance_89 : decode prog_2_method_2_code 89 = .ok (.aload_n 0, 1) := by decide +kernel
theorem d_Cur_advance_90 : decode prog_2_method_2_code 90 = .ok (.aload_n 2, 1) := by decide +kernel
theorem d_Cur_advance_91 : decode prog_2_method_2_code 91 = .ok (.iload_n 3, 1) := by decide +kernel
theorem d_Cur_advance_92 : decode prog_2_method_2_code 92 = .ok (.invokevirtual 30, 3) := by decide +kernel
theorem d_Cur_advance_95 : decode prog_2_method_2_code 95 = .ok (.invokevirtual 34, 3) := by decide +kernel
theorem d_Cur_advance_98 : decode prog_2_method_2_code 98 = .ok (.iinc 1 1, 3) := by decide +kernel
theorem d_Cur_advance_101 : decode prog_2_method_2_code 101 = .ok (.goto (-99), 3) := by decide +kernel
theorem d_Cur_advance_104 : decode prog_2_method_2_code 104 = .ok (.aconst_null, 1) := by decide +kernel
theorem d_Cur_advance_105 : decode prog_2_method_2_code 105 = .ok (.areturn, 1) := by decide +kernel
theorem d_Cur_goInto_0 : decode prog_2_method_3_code 0 = .ok (.aload_n 1, 1) := by decide +kernel
theorem d_Cur_goInto_1 : decode prog_2_method_3_code 1 = .ok (.ifnull 41, 3) := by decide +kernel
theorem d_Cur_goInto_4 : decode prog_2_method_3_code 4 = .ok (.aload_n 0, 1) := by decide +kernel
theorem d_Cur_goInto_5 : decode prog_2_method_3_code 5 = .ok (.getfield 21, 3) := by decide +kernel
theorem d_Cur_goInto_8 : decode prog_2_method_3_code 8 = .ok (.iconst 4, 1) := by decide +kernel
theorem d_Cur_goInto_9 : decode prog_2_method_3_code 9 = .ok (.if_icmp .ge 33, 3) := by decide +kernel
theorem d_Cur_goInto_12 : decode prog_2_method_3_code 12 = .ok (.aload_n 0, 1) := by decide +kernel
theorem d_Cur_goInto_13 : decode prog_2_method_3_code 13 = .ok (.dup, 1) := by decide +kernel
theorem d_Cur_goInto_14 : decode prog_2_method_3_code 14 = .ok (.getfield 21, 3) := by decide +kernel
theorem d_Cur_goInto_17 : decode prog_2_method_3_code 17 = .ok (.iconst 1, 1) := by decide +kernel
theorem d_Cur_goInto_18 : decode prog_2_method_3_code 18 = .ok (.iadd, 1) := by decide +kernel
theorem d_Cur_goInto_19 : decode prog_2_method_3_code 19 = .ok (.putfield 21, 3) := by decide +kernel
theorem d_Cur_goInto_22 : decode prog_2_method_3_code 22 = .ok (.aload_n 0, 1) := by decide +kernel
theorem d_Cur_goInto_23 : decode prog_2_method_3_code 23 = .ok (.getfield 11, 3) := by decide +kernel
theorem d_Cur_goInto_26 : decode prog_2_method_3_code 26 = .ok (.aload_n 0, 1) := by decide +kernel
theorem d_Cur_goInto_27 : decode prog_2_method_3_code 27 = .ok (.getfield 21, 3) := by decide +kernel
theorem d_Cur_goInto_30 : decode prog_2_method_3_code 30 = .ok (.aload_n 1, 1) := by decide +kernel
theorem d_Cur_goInto_31 : decode prog_2_method_3_code 31 = .ok (.aastore, 1) := by decide +kernel
theorem d_Cur_goInto_32 : decode prog_2_method_3_code 32 = .ok (.aload_n 0, 1) := by decide +kernel
theorem d_Cur_goInto_33 : decode prog_2_method_3_code 33 = .ok (.getfield 17, 3) := by decide +kernel
theorem d_Cur_goInto_36 : decode prog_2_method_3_code 36 = .ok (.aload_n 0, 1) := by decide +kernel
theorem d_Cur_goInto_37 : decode prog_2_method_3_code 37 = .ok (.getfield 21, 3) := by decide +kernel
theorem d_Cur_goInto_40 : decode prog_2_method_3_code 40 = .ok (.iconst 0, 1) := by decide +kernel
theorem d_Cur_goInto_41 : decode prog_2_method_3_code 41 = .ok (.iastore, 1) := by decide +kernel
theorem d_Cur_goInto_42 : decode prog_2_method_3_code 42 = .ok (.return_, 1) := by decide +kernel
theorem d_Ent_init_0 : decode prog_3_method_1_code 0 = .ok (.aload_n 0, 1) := by decide +kernel
theorem d_Ent_init_1 : decode prog_3_method_1_code 1 = .ok (.invokespecial 1, 3) := by decide +kernel
theorem d_Ent_init_4 : decode prog_3_method_1_code 4 = .ok (.aload_n 0, 1) := by decide +kernel
theorem d_Ent_init_5 : decode prog_3_method_1_code 5 = .ok (.iload_n 1, 1) := by decide +kernel
theorem d_Ent_init_6 : decode prog_3_method_1_code 6 = .ok (.putfield 7, 3) := by decide +kernel
theorem d_Ent_init_9 : decode prog_3_method_1_code 9 = .ok (.aload_n 0, 1) := by decide +kernel
theorem d_Ent_init_10 : decode prog_3_method_1_code 10 = .ok (.lload_n 2, 1) := by decide +kernel
theorem d_Ent_init_11 : decode prog_3_method_1_code 11 = .ok (.putfield 13, 3) := by decide +kernel
theorem d_Ent_init_14 : decode prog_3_method_1_code 14 = .ok (.return_, 1) := by decide +kernel
theorem d_Nod_init_0 : decode prog_4_method_1_code 0 = .ok (.aload_n 0, 1) := by decide +kernel
theorem d_Nod_init_1 : decode prog_4_method_1_code 1 = .ok (.invokespecial 3, 3) := by decide +kernel
theorem d_Nod_init_4 : decode prog_4_method_1_code 4 = .ok (.iload_n 2, 1) := by decide +kernel
theorem d_Nod_init_5 : decode prog_4_method_1_code 5 = .ok (.iconst 4, 1) := by decide +kernel
theorem d_Nod_init_6 : decode prog_4_method_1_code 6 = .ok (.if_icmp .lt 7, 3) := by decide +kernel
theorem d_Nod_init_9 : decode prog_4_method_1_code 9 = .ok (.iconst 1, 1) := by decide +kernel
theorem d_Nod_init_10 : decode prog_4_method_1_code 10 = .ok (.goto 4, 3) := by decide +kernel
theorem d_Nod_init_13 : decode prog_4_method_1_code 13 = .ok (.iconst 0, 1) := by decide +kernel
theorem d_Nod_init_14 : decode prog_4_method_1_code 14 = .ok (.istore_n 3, 1) := by decide +kernel
theorem d_Nod_init_15 : decode prog_4_method_1_code 15 = .ok (.aload_n 0, 1) := by decide +kernel
theorem d_Nod_init_16 : decode prog_4_method_1_code 16 = .ok (.iload_n 1, 1) := by decide +kernel
theorem d_Nod_init_17 : decode prog_4_method_1_code 17 = .ok (.putfield 9, 3) := by decide +kernel
theorem d_Nod_init_20 : decode prog_4_method_1_code 20 = .ok (.aload_n 0, 1) := by decide +kernel
theorem d_Nod_init_21 : decode prog_4_method_1_code 21 = .ok (.iload_n 3, 1) := by decide +kernel
theorem d_Nod_init_22 : decode prog_4_method_1_code 22 = .ok (.ifCond .eq 8, 3) := by decide +kernel
theorem d_Nod_init_25 : decode prog_4_method_1_code 25 = .ok (.bipush 6, 2) := by decide +kernel
theorem d_Nod_init_27 : decode prog_4_method_1_code 27 = .ok (.goto 4, 3) := by decide +kernel
theorem d_Nod_init_30 : decode prog_4_method_1_code 30 = .ok (.iconst 4, 1) := by decide +kernel
theorem d_Nod_init_31 : decode prog_4_method_1_code 31 = .ok (.anewarray 15, 3) := by decide +kernel
theorem d_Nod_init_34 : decode prog_4_method_1_code 34 = .ok (.putfield 17, 3) := by decide +kernel
theorem d_Nod_init_37 : decode prog_4_method_1_code 37 = .ok (.aload_n 0, 1) := by decide +kernel
theorem d_Nod_init_38 : decode prog_4_method_1_code 38 = .ok (.iload_n 3, 1) := by decide +kernel
theorem d_Nod_init_39 : decode prog_4_method_1_code 39 = .ok (.ifCond .eq 7, 3) := by decide +kernel
theorem d_Nod_init_42 : decode prog_4_method_1_code 42 = .ok (.iconst 0, 1) := by decide +kernel
theorem d_Nod_init_43 : decode prog_4_method_1_code 43 = .ok (.goto 4, 3) := by decide +kernel
theorem d_Nod_init_46 : decode prog_4_method_1_code 46 = .ok (.iconst 4, 1) := by decide +kernel
theorem d_Nod_init_47 : decode prog_4_method_1_code 47 = .ok (.anewarray 10, 3) := by decide +kernel
theorem d_Nod_init_50 : decode prog_4_method_1_code 50 = .ok (.putfield 21, 3) := by decide +kernel
theorem d_Nod_init_53 : decode prog_4_method_1_code 53 = .ok (.return_, 1) := by decide +kernel
theorem d_Nod_entryAt_0 : decode prog_4_method_2_code 0 = .ok (.iload_n 1, 1) := by decide +kernel
theorem d_Nod_entryAt_1 : decode prog_4_method_2_code 1 = .ok (.ifCond .lt 21, 3) := by decide +kernel
theorem d_Nod_entryAt_4 : decode prog_4_method_2_code 4 = .ok (.iload_n 1, 1) := by decide +kernel
theorem d_Nod_entryAt_5 : decode prog_4_method_2_code 5 = .ok (.aload_n 0, 1) := by decide +kernel
theorem d_Nod_entryAt_6 : decode prog_4_method_2_code 6 = .ok (.getfield 17, 3) := by decide +kernel
theorem d_Nod_entryAt_9 : decode prog_4_method_2_code 9 = .ok (.arraylength, 1) := by decide +kernel
theorem d_Nod_entryAt_10 : decode prog_4_method_2_code 10 = .ok (.if_icmp .ge 12, 3) := by decide +kernel
theorem d_Nod_entryAt_13 : decode prog_4_method_2_code 13 = .ok (.aload_n 0, 1) := by decide +kernel
theorem d_Nod_entryAt_14 : decode prog_4_method_2_code 14 = .ok (.getfield 17, 3) := by decide +kernel
theorem d_Nod_entryAt_17 : decode prog_4_method_2_code 17 = .ok (.iload_n 1, 1) := by decide +kernel
theorem d_Nod_entryAt_18 : decode prog_4_method_2_code 18 = .ok (.aaload, 1) := by decide +kernel
theorem d_Nod_entryAt_19 : decode prog_4_method_2_code 19 = .ok (.goto 4, 3) := by decide +kernel
theorem d_Nod_entryAt_22 : decode prog_4_method_2_code 22 = .ok (.aconst_null, 1) := by decide +kernel
theorem d_Nod_entryAt_23 : decode prog_4_method_2_code 23 = .ok (.areturn, 1) := by decide +kernel
theorem d_Nod_nodeAt_0 : decode prog_4_method_3_code 0 = .ok (.iload_n 1, 1) := by decide +kernel
theorem d_Nod_nodeAt_1 : decode prog_4_method_3_code 1 = .ok (.ifCond .lt 21, 3) := by decide +kernel
theorem d_Nod_nodeAt_4 : decode prog_4_method_3_code 4 = .ok (.iload_n 1, 1) := by decide +kernel
theorem d_Nod_nodeAt_5 : decode prog_4_method_3_code 5 = .ok (.aload_n 0, 1) := by decide +kernel
theorem d_Nod_nodeAt_6 : decode prog_4_method_3_code 6 = .ok (.getfield 21, 3) := by decide +kernel
theorem d_Nod_nodeAt_9 : decode prog_4_method_3_code 9 = .ok (.arraylength, 1) := by decide +kernel
theorem d_Nod_nodeAt_10 : decode prog_4_method_3_code 10 = .ok (.if_icmp .ge 12, 3) := by decide +kernel
theorem d_Nod_nodeAt_13 : decode prog_4_method_3_code 13 = .ok (.aload_n 0, 1) := by decide +kernel
theorem d_Nod_nodeAt_14 : decode prog_4_method_3_code 14 = .ok (.getfield 21, 3) := by decide +kernel
theorem d_Nod_nodeAt_17 : decode prog_4_method_3_code 17 = .ok (.iload_n 1, 1) := by decide +kernel
theorem d_Nod_nodeAt_18 : decode prog_4_method_3_code 18 = .ok (.aaload, 1) := by decide +kernel
theorem d_Nod_nodeAt_19 : decode prog_4_method_3_code 19 = .ok (.goto 4, 3) := by decide +kernel
theorem d_Nod_nodeAt_22 : decode prog_4_method_3_code 22 = .ok (.aconst_null, 1) := by decide +kernel
theorem d_Nod_nodeAt_23 : decode prog_4_method_3_code 23 = .ok (.areturn, 1) := by decide +kernel
theorem d_Nod_countEntries_0 : decode prog_4_method_4_code 0 = .ok (.iconst 0, 1) := by decide +kernel
theorem d_Nod_countEntries_1 : decode prog_4_method_4_code 1 = .ok (.istore_n 1, 1) := by decide +kernel
theorem d_Nod_countEntries_2 : decode prog_4_method_4_code 2 = .ok (.iconst 0, 1) := by decide +kernel
theorem d_Nod_countEntries_3 : decode prog_4_method_4_code 3 = .ok (.istore_n 2, 1) := by decide +kernel
theorem d_Nod_countEntries_4 : decode prog_4_method_4_code 4 = .ok (.iload_n 2, 1) := by decide +kernel
theorem d_Nod_countEntries_5 : decode prog_4_method_4_code 5 = .ok (.aload_n 0, 1) := by decide +kernel
theorem d_Nod_countEntries_6 : decode prog_4_method_4_code 6 = .ok (.getfield 17, 3) := by decide +kernel
theorem d_Nod_countEntries_9 : decode prog_4_method_4_code 9 = .ok (.arraylength, 1) := by decide +kernel
theorem d_Nod_countEntries_10 : decode prog_4_method_4_code 10 = .ok (.if_icmp .ge 21, 3) := by decide +kernel
theorem d_Nod_countEntries_13 : decode prog_4_method_4_code 13 = .ok (.aload_n 0, 1) := by decide +kernel
theorem d_Nod_countEntries_14 : decode prog_4_method_4_code 14 = .ok (.getfield 17, 3) := by decide +kernel
theorem d_Nod_countEntries_17 : decode prog_4_method_4_code 17 = .ok (.iload_n 2, 1) := by decide +kernel
theorem d_Nod_countEntries_18 : decode prog_4_method_4_code 18 = .ok (.aaload, 1) := by decide +kernel
theorem d_Nod_countEntries_19 : decode prog_4_method_4_code 19 = .ok (.ifnull 6, 3) := by decide +kernel
theorem d_Nod_countEntries_22 : decode prog_4_method_4_code 22 = .ok (.iinc 1 1, 3) := by decide +kernel
theorem d_Nod_countEntries_25 : decode prog_4_method_4_code 25 = .ok (.iinc 2 1, 3) := by decide +kernel
theorem d_Nod_countEntries_28 : decode prog_4_method_4_code 28 = .ok (.goto (-24), 3) := by decide +kernel
theorem d_Nod_countEntries_31 : decode prog_4_method_4_code 31 = .ok (.iload_n 1, 1) := by decide +kernel
theorem d_Nod_countEntries_32 : decode prog_4_method_4_code 32 = .ok (.ireturn, 1) := by decide +kernel
theorem d_Nod_onlyEntry_0 : decode prog_4_method_5_code 0 = .ok (.iconst 0, 1) := by decide +kernel
theorem d_Nod_onlyEntry_1 : decode prog_4_method_5_code 1 = .ok (.istore_n 1, 1) := by decide +kernel
theorem d_Nod_onlyEntry_2 : decode prog_4_method_5_code 2 = .ok (.iload_n 1, 1) := by decide +kernel
theorem d_Nod_onlyEntry_3 : decode prog_4_method_5_code 3 = .ok (.aload_n 0, 1) := by decide +kernel
theorem d_Nod_onlyEntry_4 : decode prog_4_method_5_code 4 = .ok (.getfield 21, 3) := by decide +kernel
theorem d_Nod_onlyEntry_7 : decode prog_4_method_5_code 7 = .ok (.arraylength, 1) := by decide +kernel
theorem d_Nod_onlyEntry_8 : decode prog_4_method_5_code 8 = .ok (.if_icmp .ge 20, 3) := by decide +kernel
theorem d_Nod_onlyEntry_11 : decode prog_4_method_5_code 11 = .ok (.aload_n 0, 1) := by decide +kernel
theorem d_Nod_onlyEntry_12 : decode prog_4_method_5_code 12 = .ok (.getfield 21, 3) := by decide +kernel
theorem d_Nod_onlyEntry_15 : decode prog_4_method_5_code 15 = .ok (.iload_n 1, 1) := by decide +kernel
theorem d_Nod_onlyEntry_16 : decode prog_4_method_5_code 16 = .ok (.aaload, 1) := by decide +kernel
theorem d_Nod_onlyEntry_17 : decode prog_4_method_5_code 17 = .ok (.ifnull 5, 3) := by decide +kernel
theorem d_Nod_onlyEntry_20 : decode prog_4_method_5_code 20 = .ok (.aconst_null, 1) := by decide +kernel
theorem d_Nod_onlyEntry_21 : decode prog_4_method_5_code 21 = .ok (.areturn, 1) := by decide +kernel
theorem d_Nod_onlyEntry_22 : decode prog_4_method_5_code 22 = .ok (.iinc 1 1, 3) := by decide +kernel
theorem d_Nod_onlyEntry_25 : decode prog_4_method_5_code 25 = .ok (.goto (-23), 3) := by decide +kernel
theorem d_Nod_onlyEntry_28 : decode prog_4_method_5_code 28 = .ok (.aconst_null, 1) := by decide +kernel
theorem d_Nod_onlyEntry_29 : decode prog_4_method_5_code 29 = .ok (.astore_n 1, 1) := by decide +kernel
theorem d_Nod_onlyEntry_30 : decode prog_4_method_5_code 30 = .ok (.iconst 0, 1) := by decide +kernel
theorem d_Nod_onlyEntry_31 : decode prog_4_method_5_code 31 = .ok (.istore_n 2, 1) := by decide +kernel
theorem d_Nod_onlyEntry_32 : decode prog_4_method_5_code 32 = .ok (.iload_n 2, 1) := by decide +kernel
theorem d_Nod_onlyEntry_33 : decode prog_4_method_5_code 33 = .ok (.aload_n 0, 1) := by decide +kernel
theorem d_Nod_onlyEntry_34 : decode prog_4_method_5_code 34 = .ok (.getfield 17, 3) := by decide +kernel
theorem d_Nod_onlyEntry_37 : decode prog_4_method_5_code 37 = .ok (.arraylength, 1) := by decide +kernel
theorem d_Nod_onlyEntry_38 : decode prog_4_method_5_code 38 = .ok (.if_icmp .ge 44, 3) := by decide +kernel
theorem d_Nod_onlyEntry_41 : decode prog_4_method_5_code 41 = .ok (.aload_n 0, 1) := by decide +kernel
theorem d_Nod_onlyEntry_42 : decode prog_4_method_5_code 42 = .ok (.getfield 17, 3) := by decide +kernel
theorem d_Nod_onlyEntry_45 : decode prog_4_method_5_code 45 = .ok (.iload_n 2, 1) := by decide +kernel
theorem d_Nod_onlyEntry_46 : decode prog_4_method_5_code 46 = .ok (.aaload, 1) := by decide +kernel
theorem d_Nod_onlyEntry_47 : decode prog_4_method_5_code 47 = .ok (.ifnull 9, 3) := by decide +kernel
theorem d_Nod_onlyEntry_50 : decode prog_4_method_5_code 50 = .ok (.aload_n 1, 1) := by decide +kernel
theorem d_Nod_onlyEntry_51 : decode prog_4_method_5_code 51 = .ok (.ifnull 5, 3) := by decide +kernel
theorem d_Nod_onlyEntry_54 : decode prog_4_method_5_code 54 = .ok (.aconst_null, 1) := by decide +kernel
theorem d_Nod_onlyEntry_55 : decode prog_4_method_5_code 55 = .ok (.areturn, 1) := by decide +kernel
theorem d_Nod_onlyEntry_56 : decode prog_4_method_5_code 56 = .ok (.aload_n 0, 1) := by decide +kernel
theorem d_Nod_onlyEntry_57 : decode prog_4_method_5_code 57 = .ok (.getfield 17, 3) := by decide +kernel
theorem d_Nod_onlyEntry_60 : decode prog_4_method_5_code 60 = .ok (.iload_n 2, 1) := by decide +kernel
theorem d_Nod_onlyEntry_61 : decode prog_4_method_5_code 61 = .ok (.aaload, 1) := by decide +kernel
theorem d_Nod_onlyEntry_62 : decode prog_4_method_5_code 62 = .ok (.ifnull 12, 3) := by decide +kernel
theorem d_Nod_onlyEntry_65 : decode prog_4_method_5_code 65 = .ok (.aload_n 0, 1) := by decide +kernel
theorem d_Nod_onlyEntry_66 : decode prog_4_method_5_code 66 = .ok (.getfield 17, 3) := by decide +kernel
theorem d_Nod_onlyEntry_69 : decode prog_4_method_5_code 69 = .ok (.iload_n 2, 1) := by decide +kernel
theorem d_Nod_onlyEntry_70 : decode prog_4_method_5_code 70 = .ok (.aaload, 1) := by decide +kernel
theorem d_Nod_onlyEntry_71 : decode prog_4_method_5_code 71 = .ok (.goto 4, 3) := by decide +kernel
theorem d_Nod_onlyEntry_74 : decode prog_4_method_5_code 74 = .ok (.aload_n 1, 1) := by decide +kernel
theorem d_Nod_onlyEntry_75 : decode prog_4_method_5_code 75 = .ok (.astore_n 1, 1) := by decide +kernel
theorem d_Nod_onlyEntry_76 : decode prog_4_method_5_code 76 = .ok (.iinc 2 1, 3) := by decide +kernel
theorem d_Nod_onlyEntry_79 : decode prog_4_method_5_code 79 = .ok (.goto (-47), 3) := by decide +kernel
theorem d_Nod_onlyEntry_82 : decode prog_4_method_5_code 82 = .ok (.aload_n 1, 1) := by decide +kernel
theorem d_Nod_onlyEntry_83 : decode prog_4_method_5_code 83 = .ok (.areturn, 1) := by decide +kernel
theorem d_Nod_placeInBag_0 : decode prog_4_method_6_code 0 = .ok (.iconst 0, 1) := by decide +kernel
theorem d_Nod_placeInBag_1 : decode prog_4_method_6_code 1 = .ok (.istore_n 2, 1) := by decide +kernel
theorem d_Nod_placeInBag_2 : decode prog_4_method_6_code 2 = .ok (.iload_n 2, 1) := by decide +kernel
theorem d_Nod_placeInBag_3 : decode prog_4_method_6_code 3 = .ok (.aload_n 0, 1) := by decide +kernel
theorem d_Nod_placeInBag_4 : decode prog_4_method_6_code 4 = .ok (.getfield 17, 3) := by decide +kernel
theorem d_Nod_placeInBag_7 : decode prog_4_method_6_code 7 = .ok (.arraylength, 1) := by decide +kernel
theorem d_Nod_placeInBag_8 : decode prog_4_method_6_code 8 = .ok (.if_icmp .ge 33, 3) := by decide +kernel
theorem d_Nod_placeInBag_11 : decode prog_4_method_6_code 11 = .ok (.aload_n 0, 1) := by decide +kernel
theorem d_Nod_placeInBag_12 : decode prog_4_method_6_code 12 = .ok (.getfield 17, 3) := by decide +kernel
theorem d_Nod_placeInBag_15 : decode prog_4_method_6_code 15 = .ok (.iload_n 2, 1) := by decide +kernel
theorem d_Nod_placeInBag_16 : decode prog_4_method_6_code 16 = .ok (.aaload, 1) := by decide +kernel
theorem d_Nod_placeInBag_17 : decode prog_4_method_6_code 17 = .ok (.ifnull 18, 3) := by decide +kernel
theorem d_Nod_placeInBag_20 : decode prog_4_method_6_code 20 = .ok (.aload_n 0, 1) := by decide +kernel
theorem d_Nod_placeInBag_21 : decode prog_4_method_6_code 21 = .ok (.getfield 17, 3) := by decide +kernel
theorem d_Nod_placeInBag_24 : decode prog_4_method_6_code 24 = .ok (.iload_n 2, 1) := by decide +kernel
theorem d_Nod_placeInBag_25 : decode prog_4_method_6_code 25 = .ok (.aaload, 1) := by decide +kernel
theorem d_Nod_placeInBag_26 : decode prog_4_method_6_code 26 = .ok (.getfield 25, 3) := by decide +kernel
theorem d_Nod_placeInBag_29 : decode prog_4_method_6_code 29 = .ok (.iload_n 1, 1) := by decide +kernel
theorem d_Nod_placeInBag_30 : decode prog_4_method_6_code 30 = .ok (.if_icmp .ne 5, 3) := by decide +kernel
theorem d_Nod_placeInBag_33 : decode prog_4_method_6_code 33 = .ok (.iload_n 2, 1) := by decide +kernel
theorem d_Nod_placeInBag_34 : decode prog_4_method_6_code 34 = .ok (.ireturn, 1) := by decide +kernel
theorem d_Nod_placeInBag_35 : decode prog_4_method_6_code 35 = .ok (.iinc 2 1, 3) := by decide +kernel
theorem d_Nod_placeInBag_38 : decode prog_4_method_6_code 38 = .ok (.goto (-36), 3) := by decide +kernel
theorem d_Nod_placeInBag_41 : decode prog_4_method_6_code 41 = .ok (.iconst (-1), 1) := by decide +kernel
theorem d_Nod_placeInBag_42 : decode prog_4_method_6_code 42 = .ok (.ireturn, 1) := by decide +kernel
theorem d_Nod_putInBag_0 : decode prog_4_method_7_code 0 = .ok (.aload_n 0, 1) := by decide +kernel
theorem d_Nod_putInBag_1 : decode prog_4_method_7_code 1 = .ok (.aload_n 1, 1) := by decide +kernel
theorem d_Nod_putInBag_2 : decode prog_4_method_7_code 2 = .ok (.getfield 25, 3) := by decide +kernel
theorem d_Nod_putInBag_5 : decode prog_4_method_7_code 5 = .ok (.invokevirtual 28, 3) := by decide +kernel
theorem d_Nod_putInBag_8 : decode prog_4_method_7_code 8 = .ok (.istore_n 2, 1) := by decide +kernel
theorem d_Nod_putInBag_9 : decode prog_4_method_7_code 9 = .ok (.iload_n 2, 1) := by decide +kernel
theorem d_Nod_putInBag_10 : decode prog_4_method_7_code 10 = .ok (.iconst (-1), 1) := by decide +kernel
theorem d_Nod_putInBag_11 : decode prog_4_method_7_code 11 = .ok (.if_icmp .eq 7, 3) := by decide +kernel
theorem d_Nod_putInBag_14 : decode prog_4_method_7_code 14 = .ok (.iload_n 2, 1) := by decide +kernel
theorem d_Nod_putInBag_15 : decode prog_4_method_7_code 15 = .ok (.goto 7, 3) := by decide +kernel
theorem d_Nod_putInBag_18 : decode prog_4_method_7_code 18 = .ok (.aload_n 0, 1) := by decide +kernel
theorem d_Nod_putInBag_19 : decode prog_4_method_7_code 19 = .ok (.invokevirtual 32, 3) := by decide +kernel
theorem d_Nod_putInBag_22 : decode prog_4_method_7_code 22 = .ok (.istore_n 3, 1) := by decide +kernel
theorem d_Nod_putInBag_23 : decode prog_4_method_7_code 23 = .ok (.iload_n 3, 1) := by decide +kernel
theorem d_Nod_putInBag_24 : decode prog_4_method_7_code 24 = .ok (.aload_n 0, 1) := by decide +kernel
theorem d_Nod_putInBag_25 : decode prog_4_method_7_code 25 = .ok (.getfield 17, 3) := by decide +kernel
theorem d_Nod_putInBag_28 : decode prog_4_method_7_code 28 = .ok (.arraylength, 1) := by decide +kernel
theorem d_Nod_putInBag_29 : decode prog_4_method_7_code 29 = .ok (.if_icmp .ge 10, 3) := by decide +kernel
theorem d_Nod_putInBag_32 : decode prog_4_method_7_code 32 = .ok (.aload_n 0, 1) := by decide +kernel
theorem d_Nod_putInBag_33 : decode prog_4_method_7_code 33 = .ok (.getfield 17, 3) := by decide +kernel
theorem d_Nod_putInBag_36 : decode prog_4_method_7_code 36 = .ok (.iload_n 3, 1) := by decide +kernel
theorem d_Nod_putInBag_37 : decode prog_4_method_7_code 37 = .ok (.aload_n 1, 1) := by decide +kernel
theorem d_Nod_putInBag_38 : decode prog_4_method_7_code 38 = .ok (.aastore, 1) := by decide +kernel
theorem d_Nod_putInBag_39 : decode prog_4_method_7_code 39 = .ok (.return_, 1) := by decide +kernel
theorem d_Nod_takeOutOfBag_0 : decode prog_4_method_8_code 0 = .ok (.aload_n 0, 1) := by decide +kernel
theorem d_Nod_takeOutOfBag_1 : decode prog_4_method_8_code 1 = .ok (.iload_n 1, 1) := by decide +kernel
theorem d_Nod_takeOutOfBag_2 : decode prog_4_method_8_code 2 = .ok (.invokevirtual 28, 3) := by decide +kernel
theorem d_Nod_takeOutOfBag_5 : decode prog_4_method_8_code 5 = .ok (.istore_n 2, 1) := by decide +kernel
theorem d_Nod_takeOutOfBag_6 : decode prog_4_method_8_code 6 = .ok (.iload_n 2, 1) := by decide +kernel
theorem d_Nod_takeOutOfBag_7 : decode prog_4_method_8_code 7 = .ok (.iconst (-1), 1) := by decide +kernel
theorem d_Nod_takeOutOfBag_8 : decode prog_4_method_8_code 8 = .ok (.if_icmp .ne 4, 3) := by decide +kernel
theorem d_Nod_takeOutOfBag_11 : decode prog_4_method_8_code 11 = .ok (.return_, 1) := by decide +kernel
theorem d_Nod_takeOutOfBag_12 : decode prog_4_method_8_code 12 = .ok (.iload_n 2, 1) := by decide +kernel
theorem d_Nod_takeOutOfBag_13 : decode prog_4_method_8_code 13 = .ok (.istore_n 3, 1) := by decide +kernel
theorem d_Nod_takeOutOfBag_14 : decode prog_4_method_8_code 14 = .ok (.iload_n 3, 1) := by decide +kernel
theorem d_Nod_takeOutOfBag_15 : decode prog_4_method_8_code 15 = .ok (.aload_n 0, 1) := by decide +kernel
theorem d_Nod_takeOutOfBag_16 : decode prog_4_method_8_code 16 = .ok (.getfield 17, 3) := by decide +kernel
theorem d_Nod_takeOutOfBag_19 : decode prog_4_method_8_code 19 = .ok (.arraylength, 1) := by decide +kernel
theorem d_Nod_takeOutOfBag_20 : decode prog_4_method_8_code 20 = .ok (.if_icmp .ge 22, 3) := by decide +kernel
theorem d_Nod_takeOutOfBag_23 : decode prog_4_method_8_code 23 = .ok (.aload_n 0, 1) := by decide +kernel
theorem d_Nod_takeOutOfBag_24 : decode prog_4_method_8_code 24 = .ok (.getfield 17, 3) := by decide +kernel
theorem d_Nod_takeOutOfBag_27 : decode prog_4_method_8_code 27 = .ok (.iload_n 3, 1) := by decide +kernel
theorem d_Nod_takeOutOfBag_28 : decode prog_4_method_8_code 28 = .ok (.aload_n 0, 1) := by decide +kernel
theorem d_Nod_takeOutOfBag_29 : decode prog_4_method_8_code 29 = .ok (.iload_n 3, 1) := by decide +kernel
theorem d_Nod_takeOutOfBag_30 : decode prog_4_method_8_code 30 = .ok (.iconst 1, 1) := by decide +kernel
theorem d_Nod_takeOutOfBag_31 : decode prog_4_method_8_code 31 = .ok (.iadd, 1) := by decide +kernel
theorem d_Nod_takeOutOfBag_32 : decode prog_4_method_8_code 32 = .ok (.invokevirtual 36, 3) := by decide +kernel
theorem d_Nod_takeOutOfBag_35 : decode prog_4_method_8_code 35 = .ok (.aastore, 1) := by decide +kernel
theorem d_Nod_takeOutOfBag_36 : decode prog_4_method_8_code 36 = .ok (.iinc 3 1, 3) := by decide +kernel
theorem d_Nod_takeOutOfBag_39 : decode prog_4_method_8_code 39 = .ok (.goto (-25), 3) := by decide +kernel
theorem d_Nod_takeOutOfBag_42 : decode prog_4_method_8_code 42 = .ok (.return_, 1) := by decide +kernel
theorem d_Tal_init_0 : decode prog_5_method_1_code 0 = .ok (.aload_n 0, 1) := by decide +kernel
theorem d_Tal_init_1 : decode prog_5_method_1_code 1 = .ok (.invokespecial 3, 3) := by decide +kernel
theorem d_Tal_init_4 : decode prog_5_method_1_code 4 = .ok (.aload_n 0, 1) := by decide +kernel
theorem d_Tal_init_5 : decode prog_5_method_1_code 5 = .ok (.iload_n 1, 1) := by decide +kernel
theorem d_Tal_init_6 : decode prog_5_method_1_code 6 = .ok (.putfield 9, 3) := by decide +kernel
theorem d_Tal_init_9 : decode prog_5_method_1_code 9 = .ok (.return_, 1) := by decide +kernel
theorem d_Tal_add_0 : decode prog_5_method_2_code 0 = .ok (.aload_n 0, 1) := by decide +kernel
theorem d_Tal_add_1 : decode prog_5_method_2_code 1 = .ok (.dup, 1) := by decide +kernel
theorem d_Tal_add_2 : decode prog_5_method_2_code 2 = .ok (.getfield 15, 3) := by decide +kernel
theorem d_Tal_add_5 : decode prog_5_method_2_code 5 = .ok (.aload_n 1, 1) := by decide +kernel
theorem d_Tal_add_6 : decode prog_5_method_2_code 6 = .ok (.invokevirtual 18, 3) := by decide +kernel
theorem d_Tal_add_9 : decode prog_5_method_2_code 9 = .ok (.iadd, 1) := by decide +kernel
theorem d_Tal_add_10 : decode prog_5_method_2_code 10 = .ok (.putfield 15, 3) := by decide +kernel
theorem d_Tal_add_13 : decode prog_5_method_2_code 13 = .ok (.aload_n 0, 1) := by decide +kernel
theorem d_Tal_add_14 : decode prog_5_method_2_code 14 = .ok (.dup, 1) := by decide +kernel
theorem d_Tal_add_15 : decode prog_5_method_2_code 15 = .ok (.getfield 24, 3) := by decide +kernel
theorem d_Tal_add_18 : decode prog_5_method_2_code 18 = .ok (.iconst 1, 1) := by decide +kernel
theorem d_Tal_add_19 : decode prog_5_method_2_code 19 = .ok (.iadd, 1) := by decide +kernel
theorem d_Tal_add_20 : decode prog_5_method_2_code 20 = .ok (.putfield 24, 3) := by decide +kernel
theorem d_Tal_add_23 : decode prog_5_method_2_code 23 = .ok (.aload_n 0, 1) := by decide +kernel
theorem d_Tal_add_24 : decode prog_5_method_2_code 24 = .ok (.dup, 1) := by decide +kernel
theorem d_Tal_add_25 : decode prog_5_method_2_code 25 = .ok (.getfield 27, 3) := by decide +kernel
theorem d_Tal_add_28 : decode prog_5_method_2_code 28 = .ok (.iload_n 2, 1) := by decide +kernel
theorem d_Tal_add_29 : decode prog_5_method_2_code 29 = .ok (.iconst 4, 1) := by decide +kernel
theorem d_Tal_add_30 : decode prog_5_method_2_code 30 = .ok (.if_icmp .ne 7, 3) := by decide +kernel
theorem d_Tal_add_33 : decode prog_5_method_2_code 33 = .ok (.iconst 1, 1) := by decide +kernel
theorem d_Tal_add_34 : decode prog_5_method_2_code 34 = .ok (.goto 4, 3) := by decide +kernel
theorem d_Tal_add_37 : decode prog_5_method_2_code 37 = .ok (.iconst 0, 1) := by decide +kernel
theorem d_Tal_add_38 : decode prog_5_method_2_code 38 = .ok (.iadd, 1) := by decide +kernel
theorem d_Tal_add_39 : decode prog_5_method_2_code 39 = .ok (.putfield 27, 3) := by decide +kernel
theorem d_Tal_add_42 : decode prog_5_method_2_code 42 = .ok (.aload_n 0, 1) := by decide +kernel
theorem d_Tal_add_43 : decode prog_5_method_2_code 43 = .ok (.aload_n 0, 1) := by decide +kernel
theorem d_Tal_add_44 : decode prog_5_method_2_code 44 = .ok (.getfield 30, 3) := by decide +kernel
theorem d_Tal_add_47 : decode prog_5_method_2_code 47 = .ok (.iload_n 2, 1) := by decide +kernel
theorem d_Tal_add_48 : decode prog_5_method_2_code 48 = .ok (.iconst 1, 1) := by decide +kernel
theorem d_Tal_add_49 : decode prog_5_method_2_code 49 = .ok (.iadd, 1) := by decide +kernel
theorem d_Tal_add_50 : decode prog_5_method_2_code 50 = .ok (.invokestatic 33, 3) := by decide +kernel
theorem d_Tal_add_53 : decode prog_5_method_2_code 53 = .ok (.putfield 30, 3) := by decide +kernel
theorem d_Tal_add_56 : decode prog_5_method_2_code 56 = .ok (.aload_n 0, 1) := by decide +kernel
theorem d_Tal_add_57 : decode prog_5_method_2_code 57 = .ok (.dup, 1) := by decide +kernel
theorem d_Tal_add_58 : decode prog_5_method_2_code 58 = .ok (.getfield 39, 3) := by decide +kernel
theorem d_Tal_add_61 : decode prog_5_method_2_code 61 = .ok (.aload_n 1, 1) := by decide +kernel
theorem d_Tal_add_62 : decode prog_5_method_2_code 62 = .ok (.getfield 42, 3) := by decide +kernel
theorem d_Tal_add_65 : decode prog_5_method_2_code 65 = .ok (.aload_n 0, 1) := by decide +kernel
theorem d_Tal_add_66 : decode prog_5_method_2_code 66 = .ok (.getfield 9, 3) := by decide +kernel
theorem d_Tal_add_69 : decode prog_5_method_2_code 69 = .ok (.if_icmp .ne 7, 3) := by decide +kernel
theorem d_Tal_add_72 : decode prog_5_method_2_code 72 = .ok (.iconst 1, 1) := by decide +kernel
theorem d_Tal_add_73 : decode prog_5_method_2_code 73 = .ok (.goto 4, 3) := by decide +kernel
theorem d_Tal_add_76 : decode prog_5_method_2_code 76 = .ok (.iconst 0, 1) := by decide +kernel
theorem d_Tal_add_77 : decode prog_5_method_2_code 77 = .ok (.iadd, 1) := by decide +kernel
theorem d_Tal_add_78 : decode prog_5_method_2_code 78 = .ok (.putfield 39, 3) := by decide +kernel
theorem d_Tal_add_81 : decode prog_5_method_2_code 81 = .ok (.return_, 1) := by decide +kernel
theorem d_Map_init_0 : decode prog_6_method_1_code 0 = .ok (.aload_n 0, 1) := by decide +kernel
theorem d_Map_init_1 : decode prog_6_method_1_code 1 = .ok (.invokespecial 1, 3) := by decide +kernel
theorem d_Map_init_4 : decode prog_6_method_1_code 4 = .ok (.aload_n 0, 1) := by decide +kernel
theorem d_Map_init_5 : decode prog_6_method_1_code 5 = .ok (.aload_n 1, 1) := by decide +kernel
theorem d_Map_init_6 : decode prog_6_method_1_code 6 = .ok (.putfield 7, 3) := by decide +kernel
theorem d_Map_init_9 : decode prog_6_method_1_code 9 = .ok (.aload_n 0, 1) := by decide +kernel
theorem d_Map_init_10 : decode prog_6_method_1_code 10 = .ok (.iload_n 2, 1) := by decide +kernel
theorem d_Map_init_11 : decode prog_6_method_1_code 11 = .ok (.putfield 13, 3) := by decide +kernel
theorem d_Map_init_14 : decode prog_6_method_1_code 14 = .ok (.aload_n 0, 1) := by decide +kernel
theorem d_Map_init_15 : decode prog_6_method_1_code 15 = .ok (.iload_n 3, 1) := by decide +kernel
theorem d_Map_init_16 : decode prog_6_method_1_code 16 = .ok (.putfield 17, 3) := by decide +kernel
theorem d_Map_init_19 : decode prog_6_method_1_code 19 = .ok (.return_, 1) := by decide +kernel

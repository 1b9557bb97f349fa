theorem d_Mod_init_0 : decode prog_8_method_1_code 0 = .ok (.aload_n 0, 1) := by decide +kernel
theorem d_Mod_init_1 : decode prog_8_method_1_code 1 = .ok (.invokespecial 1, 3) := by decide +kernel
theorem d_Mod_init_4 : decode prog_8_method_1_code 4 = .ok (.aload_n 0, 1) := by decide +kernel
theorem d_Mod_init_5 : decode prog_8_method_1_code 5 = .ok (.iconst 1, 1) := by decide +kernel
theorem d_Mod_init_6 : decode prog_8_method_1_code 6 = .ok (.putfield 7, 3) := by decide +kernel
theorem d_Mod_init_9 : decode prog_8_method_1_code 9 = .ok (.aload_n 0, 1) := by decide +kernel
theorem d_Mod_init_10 : decode prog_8_method_1_code 10 = .ok (.bipush 6, 2) := by decide +kernel
theorem d_Mod_init_12 : decode prog_8_method_1_code 12 = .ok (.newarray .boolean, 2) := by decide +kernel
theorem d_Mod_init_14 : decode prog_8_method_1_code 14 = .ok (.putfield 13, 3) := by decide +kernel
theorem d_Mod_init_17 : decode prog_8_method_1_code 17 = .ok (.aload_n 0, 1) := by decide +kernel
theorem d_Mod_init_18 : decode prog_8_method_1_code 18 = .ok (.bipush 6, 2) := by decide +kernel
theorem d_Mod_init_20 : decode prog_8_method_1_code 20 = .ok (.newarray .boolean, 2) := by decide +kernel
theorem d_Mod_init_22 : decode prog_8_method_1_code 22 = .ok (.putfield 17, 3) := by decide +kernel
theorem d_Mod_init_25 : decode prog_8_method_1_code 25 = .ok (.aload_n 0, 1) := by decide +kernel
theorem d_Mod_init_26 : decode prog_8_method_1_code 26 = .ok (.bipush 6, 2) := by decide +kernel
theorem d_Mod_init_28 : decode prog_8_method_1_code 28 = .ok (.newarray .int, 2) := by decide +kernel
theorem d_Mod_init_30 : decode prog_8_method_1_code 30 = .ok (.putfield 20, 3) := by decide +kernel
theorem d_Mod_init_33 : decode prog_8_method_1_code 33 = .ok (.aload_n 0, 1) := by decide +kernel
theorem d_Mod_init_34 : decode prog_8_method_1_code 34 = .ok (.bipush 6, 2) := by decide +kernel
theorem d_Mod_init_36 : decode prog_8_method_1_code 36 = .ok (.newarray .int, 2) := by decide +kernel
theorem d_Mod_init_38 : decode prog_8_method_1_code 38 = .ok (.putfield 24, 3) := by decide +kernel
theorem d_Mod_init_41 : decode prog_8_method_1_code 41 = .ok (.aload_n 0, 1) := by decide +kernel
theorem d_Mod_init_42 : decode prog_8_method_1_code 42 = .ok (.sipush 360, 3) := by decide +kernel
theorem d_Mod_init_45 : decode prog_8_method_1_code 45 = .ok (.newarray .int, 2) := by decide +kernel
theorem d_Mod_init_47 : decode prog_8_method_1_code 47 = .ok (.putfield 27, 3) := by decide +kernel
theorem d_Mod_init_50 : decode prog_8_method_1_code 50 = .ok (.aload_n 0, 1) := by decide +kernel
theorem d_Mod_init_51 : decode prog_8_method_1_code 51 = .ok (.sipush 360, 3) := by decide +kernel
theorem d_Mod_init_54 : decode prog_8_method_1_code 54 = .ok (.newarray .long, 2) := by decide +kernel
theorem d_Mod_init_56 : decode prog_8_method_1_code 56 = .ok (.putfield 30, 3) := by decide +kernel
theorem d_Mod_init_59 : decode prog_8_method_1_code 59 = .ok (.aload_n 0, 1) := by decide +kernel
theorem d_Mod_init_60 : decode prog_8_method_1_code 60 = .ok (.sipush 2046, 3) := by decide +kernel
theorem d_Mod_init_63 : decode prog_8_method_1_code 63 = .ok (.newarray .int, 2) := by decide +kernel
theorem d_Mod_init_65 : decode prog_8_method_1_code 65 = .ok (.putfield 34, 3) := by decide +kernel
theorem d_Mod_init_68 : decode prog_8_method_1_code 68 = .ok (.aload_n 0, 1) := by decide +kernel
theorem d_Mod_init_69 : decode prog_8_method_1_code 69 = .ok (.iconst 4, 1) := by decide +kernel
theorem d_Mod_init_70 : decode prog_8_method_1_code 70 = .ok (.newarray .boolean, 2) := by decide +kernel
theorem d_Mod_init_72 : decode prog_8_method_1_code 72 = .ok (.putfield 37, 3) := by decide +kernel
theorem d_Mod_init_75 : decode prog_8_method_1_code 75 = .ok (.aload_n 0, 1) := by decide +kernel
theorem d_Mod_init_76 : decode prog_8_method_1_code 76 = .ok (.iconst 4, 1) := by decide +kernel
theorem d_Mod_init_77 : decode prog_8_method_1_code 77 = .ok (.newarray .int, 2) := by decide +kernel
theorem d_Mod_init_79 : decode prog_8_method_1_code 79 = .ok (.putfield 40, 3) := by decide +kernel
theorem d_Mod_init_82 : decode prog_8_method_1_code 82 = .ok (.aload_n 0, 1) := by decide +kernel
theorem d_Mod_init_83 : decode prog_8_method_1_code 83 = .ok (.iconst 4, 1) := by decide +kernel
theorem d_Mod_init_84 : decode prog_8_method_1_code 84 = .ok (.newarray .int, 2) := by decide +kernel
theorem d_Mod_init_86 : decode prog_8_method_1_code 86 = .ok (.putfield 43, 3) := by decide +kernel
theorem d_Mod_init_89 : decode prog_8_method_1_code 89 = .ok (.aload_n 0, 1) := by decide +kernel
theorem d_Mod_init_90 : decode prog_8_method_1_code 90 = .ok (.sipush 240, 3) := by decide +kernel
theorem d_Mod_init_93 : decode prog_8_method_1_code 93 = .ok (.newarray .int, 2) := by decide +kernel
theorem d_Mod_init_95 : decode prog_8_method_1_code 95 = .ok (.putfield 46, 3) := by decide +kernel
theorem d_Mod_init_98 : decode prog_8_method_1_code 98 = .ok (.aload_n 0, 1) := by decide +kernel
theorem d_Mod_init_99 : decode prog_8_method_1_code 99 = .ok (.sipush 240, 3) := by decide +kernel
theorem d_Mod_init_102 : decode prog_8_method_1_code 102 = .ok (.newarray .long, 2) := by decide +kernel
theorem d_Mod_init_104 : decode prog_8_method_1_code 104 = .ok (.putfield 49, 3) := by decide +kernel
theorem d_Mod_init_107 : decode prog_8_method_1_code 107 = .ok (.aload_n 0, 1) := by decide +kernel
theorem d_Mod_init_108 : decode prog_8_method_1_code 108 = .ok (.getfield 13, 3) := by decide +kernel
theorem d_Mod_init_111 : decode prog_8_method_1_code 111 = .ok (.iconst 0, 1) := by decide +kernel
theorem d_Mod_init_112 : decode prog_8_method_1_code 112 = .ok (.iconst 1, 1) := by decide +kernel
theorem d_Mod_init_113 : decode prog_8_method_1_code 113 = .ok (.bastore, 1) := by decide +kernel
theorem d_Mod_init_114 : decode prog_8_method_1_code 114 = .ok (.aload_n 0, 1) := by decide +kernel
theorem d_Mod_init_115 : decode prog_8_method_1_code 115 = .ok (.getfield 20, 3) := by decide +kernel
theorem d_Mod_init_118 : decode prog_8_method_1_code 118 = .ok (.iconst 0, 1) := by decide +kernel
theorem d_Mod_init_119 : decode prog_8_method_1_code 119 = .ok (.iconst 1, 1) := by decide +kernel
theorem d_Mod_init_120 : decode prog_8_method_1_code 120 = .ok (.iastore, 1) := by decide +kernel
theorem d_Mod_init_121 : decode prog_8_method_1_code 121 = .ok (.aload_n 0, 1) := by decide +kernel
theorem d_Mod_init_122 : decode prog_8_method_1_code 122 = .ok (.getfield 34, 3) := by decide +kernel
theorem d_Mod_init_125 : decode prog_8_method_1_code 125 = .ok (.iconst 0, 1) := by decide +kernel
theorem d_Mod_init_126 : decode prog_8_method_1_code 126 = .ok (.iconst 1, 1) := by decide +kernel
theorem d_Mod_init_127 : decode prog_8_method_1_code 127 = .ok (.iastore, 1) := by decide +kernel
theorem d_Mod_init_128 : decode prog_8_method_1_code 128 = .ok (.return_, 1) := by decide +kernel
theorem d_Mod_thrown_0 : decode prog_8_method_2_code 0 = .ok (.aload_n 0, 1) := by decide +kernel
theorem d_Mod_thrown_1 : decode prog_8_method_2_code 1 = .ok (.getfield 52, 3) := by decide +kernel
theorem d_Mod_thrown_4 : decode prog_8_method_2_code 4 = .ok (.ireturn, 1) := by decide +kernel
theorem d_Mod_fail_0 : decode prog_8_method_3_code 0 = .ok (.aload_n 0, 1) := by decide +kernel
theorem d_Mod_fail_1 : decode prog_8_method_3_code 1 = .ok (.iload_n 1, 1) := by decide +kernel
theorem d_Mod_fail_2 : decode prog_8_method_3_code 2 = .ok (.putfield 52, 3) := by decide +kernel
theorem d_Mod_fail_5 : decode prog_8_method_3_code 5 = .ok (.iconst 0, 1) := by decide +kernel
theorem d_Mod_fail_6 : decode prog_8_method_3_code 6 = .ok (.ireturn, 1) := by decide +kernel
theorem d_Mod_none_0 : decode prog_8_method_4_code 0 = .ok (.iload_n 1, 1) := by decide +kernel
theorem d_Mod_none_1 : decode prog_8_method_4_code 1 = .ok (.ifCond .lt 18, 3) := by decide +kernel
theorem d_Mod_none_4 : decode prog_8_method_4_code 4 = .ok (.iload_n 1, 1) := by decide +kernel
theorem d_Mod_none_5 : decode prog_8_method_4_code 5 = .ok (.bipush 6, 2) := by decide +kernel
theorem d_Mod_none_7 : decode prog_8_method_4_code 7 = .ok (.if_icmp .ge 12, 3) := by decide +kernel
theorem d_Mod_none_10 : decode prog_8_method_4_code 10 = .ok (.aload_n 0, 1) := by decide +kernel
theorem d_Mod_none_11 : decode prog_8_method_4_code 11 = .ok (.getfield 13, 3) := by decide +kernel
theorem d_Mod_none_14 : decode prog_8_method_4_code 14 = .ok (.iload_n 1, 1) := by decide +kernel
theorem d_Mod_none_15 : decode prog_8_method_4_code 15 = .ok (.baload, 1) := by decide +kernel
theorem d_Mod_none_16 : decode prog_8_method_4_code 16 = .ok (.ifCond .ne 7, 3) := by decide +kernel
theorem d_Mod_none_19 : decode prog_8_method_4_code 19 = .ok (.iconst 1, 1) := by decide +kernel
theorem d_Mod_none_20 : decode prog_8_method_4_code 20 = .ok (.goto 4, 3) := by decide +kernel
theorem d_Mod_none_23 : decode prog_8_method_4_code 23 = .ok (.iconst 0, 1) := by decide +kernel
theorem d_Mod_none_24 : decode prog_8_method_4_code 24 = .ok (.ireturn, 1) := by decide +kernel
theorem d_Mod_hash_0 : decode prog_8_method_5_code 0 = .ok (.iload_n 0, 1) := by decide +kernel
theorem d_Mod_hash_1 : decode prog_8_method_5_code 1 = .ok (.ldc 55, 2) := by decide +kernel
theorem d_Mod_hash_3 : decode prog_8_method_5_code 3 = .ok (.imul, 1) := by decide +kernel
theorem d_Mod_hash_4 : decode prog_8_method_5_code 4 = .ok (.bipush 24, 2) := by decide +kernel
theorem d_Mod_hash_6 : decode prog_8_method_5_code 6 = .ok (.iushr, 1) := by decide +kernel
theorem d_Mod_hash_7 : decode prog_8_method_5_code 7 = .ok (.ireturn, 1) := by decide +kernel
theorem d_Mod_node_0 : decode prog_8_method_6_code 0 = .ok (.iload_n 1, 1) := by decide +kernel
theorem d_Mod_node_1 : decode prog_8_method_6_code 1 = .ok (.ifCond .ne 7, 3) := by decide +kernel
theorem d_Mod_node_4 : decode prog_8_method_6_code 4 = .ok (.iconst 0, 1) := by decide +kernel
theorem d_Mod_node_5 : decode prog_8_method_6_code 5 = .ok (.goto 33, 3) := by decide +kernel
theorem d_Mod_node_8 : decode prog_8_method_6_code 8 = .ok (.iload_n 1, 1) := by decide +kernel
theorem d_Mod_node_9 : decode prog_8_method_6_code 9 = .ok (.iconst 1, 1) := by decide +kernel
theorem d_Mod_node_10 : decode prog_8_method_6_code 10 = .ok (.if_icmp .ne 7, 3) := by decide +kernel
theorem d_Mod_node_13 : decode prog_8_method_6_code 13 = .ok (.iconst 1, 1) := by decide +kernel
theorem d_Mod_node_14 : decode prog_8_method_6_code 14 = .ok (.goto 24, 3) := by decide +kernel
theorem d_Mod_node_17 : decode prog_8_method_6_code 17 = .ok (.iload_n 1, 1) := by decide +kernel
theorem d_Mod_node_18 : decode prog_8_method_6_code 18 = .ok (.iconst 2, 1) := by decide +kernel
theorem d_Mod_node_19 : decode prog_8_method_6_code 19 = .ok (.if_icmp .ne 7, 3) := by decide +kernel
theorem d_Mod_node_22 : decode prog_8_method_6_code 22 = .ok (.iconst 5, 1) := by decide +kernel
theorem d_Mod_node_23 : decode prog_8_method_6_code 23 = .ok (.goto 15, 3) := by decide +kernel
theorem d_Mod_node_26 : decode prog_8_method_6_code 26 = .ok (.iload_n 1, 1) := by decide +kernel
theorem d_Mod_node_27 : decode prog_8_method_6_code 27 = .ok (.iconst 3, 1) := by decide +kernel
theorem d_Mod_node_28 : decode prog_8_method_6_code 28 = .ok (.if_icmp .ne 8, 3) := by decide +kernel
theorem d_Mod_node_31 : decode prog_8_method_6_code 31 = .ok (.bipush 21, 2) := by decide +kernel
theorem d_Mod_node_33 : decode prog_8_method_6_code 33 = .ok (.goto 5, 3) := by decide +kernel
theorem d_Mod_node_36 : decode prog_8_method_6_code 36 = .ok (.bipush 85, 2) := by decide +kernel
theorem d_Mod_node_38 : decode prog_8_method_6_code 38 = .ok (.istore_n 2, 1) := by decide +kernel
theorem d_Mod_node_39 : decode prog_8_method_6_code 39 = .ok (.iload_n 2, 1) := by decide +kernel
theorem d_Mod_node_40 : decode prog_8_method_6_code 40 = .ok (.iload_n 0, 1) := by decide +kernel
theorem d_Mod_node_41 : decode prog_8_method_6_code 41 = .ok (.bipush 8, 2) := by decide +kernel
theorem d_Mod_node_43 : decode prog_8_method_6_code 43 = .ok (.iconst 2, 1) := by decide +kernel
theorem d_Mod_node_44 : decode prog_8_method_6_code 44 = .ok (.iload_n 1, 1) := by decide +kernel
theorem d_Mod_node_45 : decode prog_8_method_6_code 45 = .ok (.imul, 1) := by decide +kernel
theorem d_Mod_node_46 : decode prog_8_method_6_code 46 = .ok (.isub, 1) := by decide +kernel
theorem d_Mod_node_47 : decode prog_8_method_6_code 47 = .ok (.ishr, 1) := by decide +kernel
theorem d_Mod_node_48 : decode prog_8_method_6_code 48 = .ok (.iadd, 1) := by decide +kernel
theorem d_Mod_node_49 : decode prog_8_method_6_code 49 = .ok (.ireturn, 1) := by decide +kernel
theorem d_Mod_sharing_0 : decode prog_8_method_7_code 0 = .ok (.iconst 0, 1) := by decide +kernel
theorem d_Mod_sharing_1 : decode prog_8_method_7_code 1 = .ok (.istore 4, 2) := by decide +kernel
theorem d_Mod_sharing_3 : decode prog_8_method_7_code 3 = .ok (.iconst 0, 1) := by decide +kernel
theorem d_Mod_sharing_4 : decode prog_8_method_7_code 4 = .ok (.istore 5, 2) := by decide +kernel
theorem d_Mod_sharing_6 : decode prog_8_method_7_code 6 = .ok (.iload 5, 2) := by decide +kernel
theorem d_Mod_sharing_8 : decode prog_8_method_7_code 8 = .ok (.aload_n 0, 1) := by decide +kernel
theorem d_Mod_sharing_9 : decode prog_8_method_7_code 9 = .ok (.getfield 24, 3) := by decide +kernel
theorem d_Mod_sharing_12 : decode prog_8_method_7_code 12 = .ok (.iload_n 1, 1) := by decide +kernel
theorem d_Mod_sharing_13 : decode prog_8_method_7_code 13 = .ok (.iaload, 1) := by decide +kernel
theorem d_Mod_sharing_14 : decode prog_8_method_7_code 14 = .ok (.if_icmp .ge 52, 3) := by decide +kernel
theorem d_Mod_sharing_17 : decode prog_8_method_7_code 17 = .ok (.iload 4, 2) := by decide +kernel
theorem d_Mod_sharing_19 : decode prog_8_method_7_code 19 = .ok (.aload_n 0, 1) := by decide +kernel
theorem d_Mod_sharing_20 : decode prog_8_method_7_code 20 = .ok (.getfield 27, 3) := by decide +kernel
theorem d_Mod_sharing_23 : decode prog_8_method_7_code 23 = .ok (.bipush 60, 2) := by decide +kernel
theorem d_Mod_sharing_25 : decode prog_8_method_7_code 25 = .ok (.iload_n 1, 1) := by decide +kernel
theorem d_Mod_sharing_26 : decode prog_8_method_7_code 26 = .ok (.imul, 1) := by decide +kernel
theorem d_Mod_sharing_27 : decode prog_8_method_7_code 27 = .ok (.iload 5, 2) := by decide +kernel
theorem d_Mod_sharing_29 : decode prog_8_method_7_code 29 = .ok (.iadd, 1) := by decide +kernel
theorem d_Mod_sharing_30 : decode prog_8_method_7_code 30 = .ok (.iaload, 1) := by decide +kernel
theorem d_Mod_sharing_31 : decode prog_8_method_7_code 31 = .ok (.invokestatic 56, 3) := by decide +kernel
theorem d_Mod_sharing_34 : decode prog_8_method_7_code 34 = .ok (.bipush 8, 2) := by decide +kernel
theorem d_Mod_sharing_36 : decode prog_8_method_7_code 36 = .ok (.iconst 2, 1) := by decide +kernel
theorem d_Mod_sharing_37 : decode prog_8_method_7_code 37 = .ok (.iload_n 3, 1) := by decide +kernel
theorem d_Mod_sharing_38 : decode prog_8_method_7_code 38 = .ok (.imul, 1) := by decide +kernel
theorem d_Mod_sharing_39 : decode prog_8_method_7_code 39 = .ok (.isub, 1) := by decide +kernel
theorem d_Mod_sharing_40 : decode prog_8_method_7_code 40 = .ok (.ishr, 1) := by decide +kernel
theorem d_Mod_sharing_41 : decode prog_8_method_7_code 41 = .ok (.iload_n 2, 1) := by decide +kernel
theorem d_Mod_sharing_42 : decode prog_8_method_7_code 42 = .ok (.bipush 8, 2) := by decide +kernel
theorem d_Mod_sharing_44 : decode prog_8_method_7_code 44 = .ok (.iconst 2, 1) := by decide +kernel
theorem d_Mod_sharing_45 : decode prog_8_method_7_code 45 = .ok (.iload_n 3, 1) := by decide +kernel
theorem d_Mod_sharing_46 : decode prog_8_method_7_code 46 = .ok (.imul, 1) := by decide +kernel
theorem d_Mod_sharing_47 : decode prog_8_method_7_code 47 = .ok (.isub, 1) := by decide +kernel
theorem d_Mod_sharing_48 : decode prog_8_method_7_code 48 = .ok (.ishr, 1) := by decide +kernel
theorem d_Mod_sharing_49 : decode prog_8_method_7_code 49 = .ok (.if_icmp .ne 7, 3) := by decide +kernel
theorem d_Mod_sharing_52 : decode prog_8_method_7_code 52 = .ok (.iconst 1, 1) := by decide +kernel
theorem d_Mod_sharing_53 : decode prog_8_method_7_code 53 = .ok (.goto 4, 3) := by decide +kernel
theorem d_Mod_sharing_56 : decode prog_8_method_7_code 56 = .ok (.iconst 0, 1) := by decide +kernel
theorem d_Mod_sharing_57 : decode prog_8_method_7_code 57 = .ok (.iadd, 1) := by decide +kernel
theorem d_Mod_sharing_58 : decode prog_8_method_7_code 58 = .ok (.istore 4, 2) := by decide +kernel
theorem d_Mod_sharing_60 : decode prog_8_method_7_code 60 = .ok (.iinc 5 1, 3) := by decide +kernel
theorem d_Mod_sharing_63 : decode prog_8_method_7_code 63 = .ok (.goto (-57), 3) := by decide +kernel
theorem d_Mod_sharing_66 : decode prog_8_method_7_code 66 = .ok (.iload 4, 2) := by decide +kernel
theorem d_Mod_sharing_68 : decode prog_8_method_7_code 68 = .ok (.ireturn, 1) := by decide +kernel
theorem d_Mod_exists_0 : decode prog_8_method_8_code 0 = .ok (.iload_n 3, 1) := by decide +kernel
theorem d_Mod_exists_1 : decode prog_8_method_8_code 1 = .ok (.ifCond .eq 14, 3) := by decide +kernel
theorem d_Mod_exists_4 : decode prog_8_method_8_code 4 = .ok (.aload_n 0, 1) := by decide +kernel
theorem d_Mod_exists_5 : decode prog_8_method_8_code 5 = .ok (.iload_n 1, 1) := by decide +kernel
theorem d_Mod_exists_6 : decode prog_8_method_8_code 6 = .ok (.iload_n 2, 1) := by decide +kernel
theorem d_Mod_exists_7 : decode prog_8_method_8_code 7 = .ok (.iload_n 3, 1) := by decide +kernel
theorem d_Mod_exists_8 : decode prog_8_method_8_code 8 = .ok (.invokevirtual 60, 3) := by decide +kernel
theorem d_Mod_exists_11 : decode prog_8_method_8_code 11 = .ok (.iconst 1, 1) := by decide +kernel
theorem d_Mod_exists_12 : decode prog_8_method_8_code 12 = .ok (.if_icmp .le 7, 3) := by decide +kernel
theorem d_Mod_exists_15 : decode prog_8_method_8_code 15 = .ok (.iconst 1, 1) := by decide +kernel
theorem d_Mod_exists_16 : decode prog_8_method_8_code 16 = .ok (.goto 4, 3) := by decide +kernel
theorem d_Mod_exists_19 : decode prog_8_method_8_code 19 = .ok (.iconst 0, 1) := by decide +kernel
theorem d_Mod_exists_20 : decode prog_8_method_8_code 20 = .ok (.ireturn, 1) := by decide +kernel
theorem d_Mod_write_0 : decode prog_8_method_9_code 0 = .ok (.iconst 0, 1) := by decide +kernel
theorem d_Mod_write_1 : decode prog_8_method_9_code 1 = .ok (.istore_n 3, 1) := by decide +kernel
theorem d_Mod_write_2 : decode prog_8_method_9_code 2 = .ok (.iload_n 3, 1) := by decide +kernel
theorem d_Mod_write_3 : decode prog_8_method_9_code 3 = .ok (.iconst 5, 1) := by decide +kernel
theorem d_Mod_write_4 : decode prog_8_method_9_code 4 = .ok (.if_icmp .ge 71, 3) := by decide +kernel
theorem d_Mod_write_7 : decode prog_8_method_9_code 7 = .ok (.sipush 341, 3) := by decide +kernel
theorem d_Mod_write_10 : decode prog_8_method_9_code 10 = .ok (.iload_n 1, 1) := by decide +kernel
theorem d_Mod_write_11 : decode prog_8_method_9_code 11 = .ok (.imul, 1) := by decide +kernel
theorem d_Mod_write_12 : decode prog_8_method_9_code 12 = .ok (.iload_n 2, 1) := by decide +kernel
theorem d_Mod_write_13 : decode prog_8_method_9_code 13 = .ok (.iload_n 3, 1) := by decide +kernel
theorem d_Mod_write_14 : decode prog_8_method_9_code 14 = .ok (.invokestatic 64, 3) := by decide +kernel
theorem d_Mod_write_17 : decode prog_8_method_9_code 17 = .ok (.iadd, 1) := by decide +kernel
theorem d_Mod_write_18 : decode prog_8_method_9_code 18 = .ok (.istore 4, 2) := by decide +kernel
theorem d_Mod_write_20 : decode prog_8_method_9_code 20 = .ok (.aload_n 0, 1) := by decide +kernel
theorem d_Mod_write_21 : decode prog_8_method_9_code 21 = .ok (.iload_n 1, 1) := by decide +kernel
theorem d_Mod_write_22 : decode prog_8_method_9_code 22 = .ok (.iload_n 2, 1) := by decide +kernel
theorem d_Mod_write_23 : decode prog_8_method_9_code 23 = .ok (.iload_n 3, 1) := by decide +kernel
theorem d_Mod_write_24 : decode prog_8_method_9_code 24 = .ok (.invokevirtual 68, 3) := by decide +kernel
theorem d_Mod_write_27 : decode prog_8_method_9_code 27 = .ok (.ifCond .eq 42, 3) := by decide +kernel
theorem d_Mod_write_30 : decode prog_8_method_9_code 30 = .ok (.aload_n 0, 1) := by decide +kernel
theorem d_Mod_write_31 : decode prog_8_method_9_code 31 = .ok (.getfield 34, 3) := by decide +kernel
theorem d_Mod_write_34 : decode prog_8_method_9_code 34 = .ok (.iload 4, 2) := by decide +kernel
theorem d_Mod_write_36 : decode prog_8_method_9_code 36 = .ok (.iaload, 1) := by decide +kernel
theorem d_Mod_write_37 : decode prog_8_method_9_code 37 = .ok (.aload_n 0, 1) := by decide +kernel
theorem d_Mod_write_38 : decode prog_8_method_9_code 38 = .ok (.getfield 20, 3) := by decide +kernel
theorem d_Mod_write_41 : decode prog_8_method_9_code 41 = .ok (.iload_n 1, 1) := by decide +kernel
theorem d_Mod_write_42 : decode prog_8_method_9_code 42 = .ok (.iaload, 1) := by decide +kernel
theorem d_Mod_write_43 : decode prog_8_method_9_code 43 = .ok (.if_icmp .eq 26, 3) := by decide +kernel
theorem d_Mod_write_46 : decode prog_8_method_9_code 46 = .ok (.aload_n 0, 1) := by decide +kernel
theorem d_Mod_write_47 : decode prog_8_method_9_code 47 = .ok (.getfield 34, 3) := by decide +kernel
theorem d_Mod_write_50 : decode prog_8_method_9_code 50 = .ok (.iload 4, 2) := by decide +kernel
theorem d_Mod_write_52 : decode prog_8_method_9_code 52 = .ok (.aload_n 0, 1) := by decide +kernel
theorem d_Mod_write_53 : decode prog_8_method_9_code 53 = .ok (.getfield 20, 3) := by decide +kernel
theorem d_Mod_write_56 : decode prog_8_method_9_code 56 = .ok (.iload_n 1, 1) := by decide +kernel
theorem d_Mod_write_57 : decode prog_8_method_9_code 57 = .ok (.iaload, 1) := by decide +kernel
theorem d_Mod_write_58 : decode prog_8_method_9_code 58 = .ok (.iastore, 1) := by decide +kernel
theorem d_Mod_write_59 : decode prog_8_method_9_code 59 = .ok (.aload_n 0, 1) := by decide +kernel
theorem d_Mod_write_60 : decode prog_8_method_9_code 60 = .ok (.dup, 1) := by decide +kernel
theorem d_Mod_write_61 : decode prog_8_method_9_code 61 = .ok (.getfield 72, 3) := by decide +kernel
theorem d_Mod_write_64 : decode prog_8_method_9_code 64 = .ok (.iconst 1, 1) := by decide +kernel
theorem d_Mod_write_65 : decode prog_8_method_9_code 65 = .ok (.iadd, 1) := by decide +kernel
theorem d_Mod_write_66 : decode prog_8_method_9_code 66 = .ok (.putfield 72, 3) := by decide +kernel
theorem d_Mod_write_69 : decode prog_8_method_9_code 69 = .ok (.iinc 3 1, 3) := by decide +kernel
theorem d_Mod_write_72 : decode prog_8_method_9_code 72 = .ok (.goto (-70), 3) := by decide +kernel
theorem d_Mod_write_75 : decode prog_8_method_9_code 75 = .ok (.return_, 1) := by decide +kernel
theorem d_Mod_find_0 : decode prog_8_method_10_code 0 = .ok (.iconst (-1), 1) := by decide +kernel
theorem d_Mod_find_1 : decode prog_8_method_10_code 1 = .ok (.istore_n 3, 1) := by decide +kernel
theorem d_Mod_find_2 : decode prog_8_method_10_code 2 = .ok (.iconst 0, 1) := by decide +kernel
theorem d_Mod_find_3 : decode prog_8_method_10_code 3 = .ok (.istore 4, 2) := by decide +kernel
theorem d_Mod_find_5 : decode prog_8_method_10_code 5 = .ok (.iload 4, 2) := by decide +kernel
theorem d_Mod_find_7 : decode prog_8_method_10_code 7 = .ok (.aload_n 0, 1) := by decide +kernel
theorem d_Mod_find_8 : decode prog_8_method_10_code 8 = .ok (.getfield 24, 3) := by decide +kernel
theorem d_Mod_find_11 : decode prog_8_method_10_code 11 = .ok (.iload_n 1, 1) := by decide +kernel
theorem d_Mod_find_12 : decode prog_8_method_10_code 12 = .ok (.iaload, 1) := by decide +kernel
theorem d_Mod_find_13 : decode prog_8_method_10_code 13 = .ok (.if_icmp .ge 37, 3) := by decide +kernel
theorem d_Mod_find_16 : decode prog_8_method_10_code 16 = .ok (.aload_n 0, 1) := by decide +kernel
theorem d_Mod_find_17 : decode prog_8_method_10_code 17 = .ok (.getfield 27, 3) := by decide +kernel
theorem d_Mod_find_20 : decode prog_8_method_10_code 20 = .ok (.bipush 60, 2) := by decide +kernel
theorem d_Mod_find_22 : decode prog_8_method_10_code 22 = .ok (.iload_n 1, 1) := by decide +kernel
theorem d_Mod_find_23 : decode prog_8_method_10_code 23 = .ok (.imul, 1) := by decide +kernel
theorem d_Mod_find_24 : decode prog_8_method_10_code 24 = .ok (.iload 4, 2) := by decide +kernel
theorem d_Mod_find_26 : decode prog_8_method_10_code 26 = .ok (.iadd, 1) := by decide +kernel
theorem d_Mod_find_27 : decode prog_8_method_10_code 27 = .ok (.iaload, 1) := by decide +kernel
theorem d_Mod_find_28 : decode prog_8_method_10_code 28 = .ok (.iload_n 2, 1) := by decide +kernel
theorem d_Mod_find_29 : decode prog_8_method_10_code 29 = .ok (.if_icmp .ne 13, 3) := by decide +kernel
theorem d_Mod_find_32 : decode prog_8_method_10_code 32 = .ok (.bipush 60, 2) := by decide +kernel
theorem d_Mod_find_34 : decode prog_8_method_10_code 34 = .ok (.iload_n 1, 1) := by decide +kernel
theorem d_Mod_find_35 : decode prog_8_method_10_code 35 = .ok (.imul, 1) := by decide +kernel
theorem d_Mod_find_36 : decode prog_8_method_10_code 36 = .ok (.iload 4, 2) := by decide +kernel
theorem d_Mod_find_38 : decode prog_8_method_10_code 38 = .ok (.iadd, 1) := by decide +kernel
theorem d_Mod_find_39 : decode prog_8_method_10_code 39 = .ok (.goto 4, 3) := by decide +kernel
theorem d_Mod_find_42 : decode prog_8_method_10_code 42 = .ok (.iload_n 3, 1) := by decide +kernel
theorem d_Mod_find_43 : decode prog_8_method_10_code 43 = .ok (.istore_n 3, 1) := by decide +kernel
theorem d_Mod_find_44 : decode prog_8_method_10_code 44 = .ok (.iinc 4 1, 3) := by decide +kernel
theorem d_Mod_find_47 : decode prog_8_method_10_code 47 = .ok (.goto (-42), 3) := by decide +kernel
theorem d_Mod_find_50 : decode prog_8_method_10_code 50 = .ok (.iload_n 3, 1) := by decide +kernel
theorem d_Mod_find_51 : decode prog_8_method_10_code 51 = .ok (.ireturn, 1) := by decide +kernel
theorem d_Mod_add_0 : decode prog_8_method_11_code 0 = .ok (.iload_n 2, 1) := by decide +kernel
theorem d_Mod_add_1 : decode prog_8_method_11_code 1 = .ok (.invokestatic 56, 3) := by decide +kernel
theorem d_Mod_add_4 : decode prog_8_method_11_code 4 = .ok (.istore 5, 2) := by decide +kernel
theorem d_Mod_add_6 : decode prog_8_method_11_code 6 = .ok (.aload_n 0, 1) := by decide +kernel
theorem d_Mod_add_7 : decode prog_8_method_11_code 7 = .ok (.iload_n 1, 1) := by decide +kernel
theorem d_Mod_add_8 : decode prog_8_method_11_code 8 = .ok (.iload 5, 2) := by decide +kernel
theorem d_Mod_add_10 : decode prog_8_method_11_code 10 = .ok (.invokevirtual 75, 3) := by decide +kernel
theorem d_Mod_add_13 : decode prog_8_method_11_code 13 = .ok (.bipush 60, 2) := by decide +kernel
theorem d_Mod_add_15 : decode prog_8_method_11_code 15 = .ok (.iload_n 1, 1) := by decide +kernel
theorem d_Mod_add_16 : decode prog_8_method_11_code 16 = .ok (.imul, 1) := by decide +kernel
theorem d_Mod_add_17 : decode prog_8_method_11_code 17 = .ok (.aload_n 0, 1) := by decide +kernel
theorem d_Mod_add_18 : decode prog_8_method_11_code 18 = .ok (.getfield 24, 3) := by decide +kernel
theorem d_Mod_add_21 : decode prog_8_method_11_code 21 = .ok (.iload_n 1, 1) := by decide +kernel
theorem d_Mod_add_22 : decode prog_8_method_11_code 22 = .ok (.iaload, 1) := by decide +kernel
theorem d_Mod_add_23 : decode prog_8_method_11_code 23 = .ok (.iadd, 1) := by decide +kernel
theorem d_Mod_add_24 : decode prog_8_method_11_code 24 = .ok (.istore 6, 2) := by decide +kernel
theorem d_Mod_add_26 : decode prog_8_method_11_code 26 = .ok (.aload_n 0, 1) := by decide +kernel
theorem d_Mod_add_27 : decode prog_8_method_11_code 27 = .ok (.getfield 27, 3) := by decide +kernel
theorem d_Mod_add_30 : decode prog_8_method_11_code 30 = .ok (.iload 6, 2) := by decide +kernel
theorem d_Mod_add_32 : decode prog_8_method_11_code 32 = .ok (.iload_n 2, 1) := by decide +kernel
theorem d_Mod_add_33 : decode prog_8_method_11_code 33 = .ok (.iastore, 1) := by decide +kernel
theorem d_Mod_add_34 : decode prog_8_method_11_code 34 = .ok (.aload_n 0, 1) := by decide +kernel
theorem d_Mod_add_35 : decode prog_8_method_11_code 35 = .ok (.getfield 30, 3) := by decide +kernel
theorem d_Mod_add_38 : decode prog_8_method_11_code 38 = .ok (.iload 6, 2) := by decide +kernel
theorem d_Mod_add_40 : decode prog_8_method_11_code 40 = .ok (.lload_n 3, 1) := by decide +kernel
theorem d_Mod_add_41 : decode prog_8_method_11_code 41 = .ok (.lastore, 1) := by decide +kernel
theorem d_Mod_add_42 : decode prog_8_method_11_code 42 = .ok (.iconst 1, 1) := by decide +kernel
theorem d_Mod_add_43 : decode prog_8_method_11_code 43 = .ok (.istore 7, 2) := by decide +kernel
theorem d_Mod_add_45 : decode prog_8_method_11_code 45 = .ok (.iload 7, 2) := by decide +kernel
theorem d_Mod_add_47 : decode prog_8_method_11_code 47 = .ok (.iconst 5, 1) := by decide +kernel
theorem d_Mod_add_48 : decode prog_8_method_11_code 48 = .ok (.if_icmp .ge 46, 3) := by decide +kernel
theorem d_Mod_add_51 : decode prog_8_method_11_code 51 = .ok (.aload_n 0, 1) := by decide +kernel
theorem d_Mod_add_52 : decode prog_8_method_11_code 52 = .ok (.iload_n 1, 1) := by decide +kernel
theorem d_Mod_add_53 : decode prog_8_method_11_code 53 = .ok (.iload 5, 2) := by decide +kernel
theorem d_Mod_add_55 : decode prog_8_method_11_code 55 = .ok (.iload 7, 2) := by decide +kernel
theorem d_Mod_add_57 : decode prog_8_method_11_code 57 = .ok (.invokevirtual 60, 3) := by decide +kernel
theorem d_Mod_add_60 : decode prog_8_method_11_code 60 = .ok (.iconst 1, 1) := by decide +kernel
theorem d_Mod_add_61 : decode prog_8_method_11_code 61 = .ok (.if_icmp .ne 27, 3) := by decide +kernel
theorem d_Mod_add_64 : decode prog_8_method_11_code 64 = .ok (.aload_n 0, 1) := by decide +kernel
theorem d_Mod_add_65 : decode prog_8_method_11_code 65 = .ok (.getfield 34, 3) := by decide +kernel
theorem d_Mod_add_68 : decode prog_8_method_11_code 68 = .ok (.sipush 341, 3) := by decide +kernel
theorem d_Mod_add_71 : decode prog_8_method_11_code 71 = .ok (.iload_n 1, 1) := by decide +kernel
theorem d_Mod_add_72 : decode prog_8_method_11_code 72 = .ok (.imul, 1) := by decide +kernel
theorem d_Mod_add_73 : decode prog_8_method_11_code 73 = .ok (.iload 5, 2) := by decide +kernel
theorem d_Mod_add_75 : decode prog_8_method_11_code 75 = .ok (.iload 7, 2) := by decide +kernel
theorem d_Mod_add_77 : decode prog_8_method_11_code 77 = .ok (.invokestatic 64, 3) := by decide +kernel
theorem d_Mod_add_80 : decode prog_8_method_11_code 80 = .ok (.iadd, 1) := by decide +kernel
theorem d_Mod_add_81 : decode prog_8_method_11_code 81 = .ok (.aload_n 0, 1) := by decide +kernel
theorem d_Mod_add_82 : decode prog_8_method_11_code 82 = .ok (.getfield 20, 3) := by decide +kernel
theorem d_Mod_add_85 : decode prog_8_method_11_code 85 = .ok (.iload_n 1, 1) := by decide +kernel
theorem d_Mod_add_86 : decode prog_8_method_11_code 86 = .ok (.iaload, 1) := by decide +kernel
theorem d_Mod_add_87 : decode prog_8_method_11_code 87 = .ok (.iastore, 1) := by decide +kernel
theorem d_Mod_add_88 : decode prog_8_method_11_code 88 = .ok (.iinc 7 1, 3) := by decide +kernel
theorem d_Mod_add_91 : decode prog_8_method_11_code 91 = .ok (.goto (-46), 3) := by decide +kernel
theorem d_Mod_add_94 : decode prog_8_method_11_code 94 = .ok (.aload_n 0, 1) := by decide +kernel
theorem d_Mod_add_95 : decode prog_8_method_11_code 95 = .ok (.getfield 24, 3) := by decide +kernel
theorem d_Mod_add_98 : decode prog_8_method_11_code 98 = .ok (.iload_n 1, 1) := by decide +kernel
theorem d_Mod_add_99 : decode prog_8_method_11_code 99 = .ok (.dup2, 1) := by decide +kernel
theorem d_Mod_add_100 : decode prog_8_method_11_code 100 = .ok (.iaload, 1) := by decide +kernel
theorem d_Mod_add_101 : decode prog_8_method_11_code 101 = .ok (.iconst 1, 1) := by decide +kernel
theorem d_Mod_add_102 : decode prog_8_method_11_code 102 = .ok (.iadd, 1) := by decide +kernel
theorem d_Mod_add_103 : decode prog_8_method_11_code 103 = .ok (.iastore, 1) := by decide +kernel
theorem d_Mod_add_104 : decode prog_8_method_11_code 104 = .ok (.return_, 1) := by decide +kernel
theorem d_Mod_put_0 : decode prog_8_method_12_code 0 = .ok (.aload_n 0, 1) := by decide +kernel
theorem d_Mod_put_1 : decode prog_8_method_12_code 1 = .ok (.iconst 0, 1) := by decide +kernel
theorem d_Mod_put_2 : decode prog_8_method_12_code 2 = .ok (.putfield 52, 3) := by decide +kernel
theorem d_Mod_put_5 : decode prog_8_method_12_code 5 = .ok (.aload_n 0, 1) := by decide +kernel
theorem d_Mod_put_6 : decode prog_8_method_12_code 6 = .ok (.iload_n 1, 1) := by decide +kernel
theorem d_Mod_put_7 : decode prog_8_method_12_code 7 = .ok (.invokevirtual 79, 3) := by decide +kernel
theorem d_Mod_put_10 : decode prog_8_method_12_code 10 = .ok (.ifCond .eq 17, 3) := by decide +kernel
theorem d_Mod_put_13 : decode prog_8_method_12_code 13 = .ok (.aload_n 0, 1) := by decide +kernel
theorem d_Mod_put_14 : decode prog_8_method_12_code 14 = .ok (.iconst 1, 1) := by decide +kernel
theorem d_Mod_put_15 : decode prog_8_method_12_code 15 = .ok (.invokevirtual 83, 3) := by decide +kernel
theorem d_Mod_put_18 : decode prog_8_method_12_code 18 = .ok (.ifCond .le 7, 3) := by decide +kernel
theorem d_Mod_put_21 : decode prog_8_method_12_code 21 = .ok (.iconst 1, 1) := by decide +kernel
theorem d_Mod_put_22 : decode prog_8_method_12_code 22 = .ok (.goto 4, 3) := by decide +kernel
theorem d_Mod_put_25 : decode prog_8_method_12_code 25 = .ok (.iconst 0, 1) := by decide +kernel
theorem d_Mod_put_26 : decode prog_8_method_12_code 26 = .ok (.ireturn, 1) := by decide +kernel
theorem d_Mod_put_27 : decode prog_8_method_12_code 27 = .ok (.aload_n 0, 1) := by decide +kernel
theorem d_Mod_put_28 : decode prog_8_method_12_code 28 = .ok (.getfield 17, 3) := by decide +kernel
theorem d_Mod_put_31 : decode prog_8_method_12_code 31 = .ok (.iload_n 1, 1) := by decide +kernel
theorem d_Mod_put_32 : decode prog_8_method_12_code 32 = .ok (.baload, 1) := by decide +kernel
theorem d_Mod_put_33 : decode prog_8_method_12_code 33 = .ok (.ifCond .eq 17, 3) := by decide +kernel
theorem d_Mod_put_36 : decode prog_8_method_12_code 36 = .ok (.aload_n 0, 1) := by decide +kernel
theorem d_Mod_put_37 : decode prog_8_method_12_code 37 = .ok (.iconst 2, 1) := by decide +kernel
theorem d_Mod_put_38 : decode prog_8_method_12_code 38 = .ok (.invokevirtual 83, 3) := by decide +kernel
theorem d_Mod_put_41 : decode prog_8_method_12_code 41 = .ok (.ifCond .le 7, 3) := by decide +kernel
theorem d_Mod_put_44 : decode prog_8_method_12_code 44 = .ok (.iconst 1, 1) := by decide +kernel
theorem d_Mod_put_45 : decode prog_8_method_12_code 45 = .ok (.goto 4, 3) := by decide +kernel
theorem d_Mod_put_48 : decode prog_8_method_12_code 48 = .ok (.iconst 0, 1) := by decide +kernel
theorem d_Mod_put_49 : decode prog_8_method_12_code 49 = .ok (.ireturn, 1) := by decide +kernel
theorem d_Mod_put_50 : decode prog_8_method_12_code 50 = .ok (.aload_n 0, 1) := by decide +kernel
theorem d_Mod_put_51 : decode prog_8_method_12_code 51 = .ok (.iload_n 1, 1) := by decide +kernel
theorem d_Mod_put_52 : decode prog_8_method_12_code 52 = .ok (.iload_n 2, 1) := by decide +kernel
theorem d_Mod_put_53 : decode prog_8_method_12_code 53 = .ok (.invokevirtual 86, 3) := by decide +kernel
theorem d_Mod_put_56 : decode prog_8_method_12_code 56 = .ok (.istore 5, 2) := by decide +kernel
theorem d_Mod_put_58 : decode prog_8_method_12_code 58 = .ok (.iload 5, 2) := by decide +kernel
theorem d_Mod_put_60 : decode prog_8_method_12_code 60 = .ok (.ifCond .ge 43, 3) := by decide +kernel
theorem d_Mod_put_63 : decode prog_8_method_12_code 63 = .ok (.aload_n 0, 1) := by decide +kernel
theorem d_Mod_put_64 : decode prog_8_method_12_code 64 = .ok (.getfield 24, 3) := by decide +kernel
theorem d_Mod_put_67 : decode prog_8_method_12_code 67 = .ok (.iload_n 1, 1) := by decide +kernel
theorem d_Mod_put_68 : decode prog_8_method_12_code 68 = .ok (.iaload, 1) := by decide +kernel
theorem d_Mod_put_69 : decode prog_8_method_12_code 69 = .ok (.bipush 60, 2) := by decide +kernel
theorem d_Mod_put_71 : decode prog_8_method_12_code 71 = .ok (.if_icmp .eq 18, 3) := by decide +kernel
theorem d_Mod_put_74 : decode prog_8_method_12_code 74 = .ok (.aload_n 0, 1) := by decide +kernel
theorem d_Mod_put_75 : decode prog_8_method_12_code 75 = .ok (.iload_n 1, 1) := by decide +kernel
theorem d_Mod_put_76 : decode prog_8_method_12_code 76 = .ok (.iload_n 2, 1) := by decide +kernel
theorem d_Mod_put_77 : decode prog_8_method_12_code 77 = .ok (.invokestatic 56, 3) := by decide +kernel
theorem d_Mod_put_80 : decode prog_8_method_12_code 80 = .ok (.iconst 4, 1) := by decide +kernel
theorem d_Mod_put_81 : decode prog_8_method_12_code 81 = .ok (.invokevirtual 60, 3) := by decide +kernel
theorem d_Mod_put_84 : decode prog_8_method_12_code 84 = .ok (.bipush 6, 2) := by decide +kernel
theorem d_Mod_put_86 : decode prog_8_method_12_code 86 = .ok (.if_icmp .ne 17, 3) := by decide +kernel
theorem d_Mod_put_89 : decode prog_8_method_12_code 89 = .ok (.aload_n 0, 1) := by decide +kernel
theorem d_Mod_put_90 : decode prog_8_method_12_code 90 = .ok (.iconst 3, 1) := by decide +kernel
theorem d_Mod_put_91 : decode prog_8_method_12_code 91 = .ok (.invokevirtual 83, 3) := by decide +kernel
theorem d_Mod_put_94 : decode prog_8_method_12_code 94 = .ok (.ifCond .le 7, 3) := by decide +kernel
theorem d_Mod_put_97 : decode prog_8_method_12_code 97 = .ok (.iconst 1, 1) := by decide +kernel
theorem d_Mod_put_98 : decode prog_8_method_12_code 98 = .ok (.goto 4, 3) := by decide +kernel
theorem d_Mod_put_101 : decode prog_8_method_12_code 101 = .ok (.iconst 0, 1) := by decide +kernel
theorem d_Mod_put_102 : decode prog_8_method_12_code 102 = .ok (.ireturn, 1) := by decide +kernel
theorem d_Mod_put_103 : decode prog_8_method_12_code 103 = .ok (.aload_n 0, 1) := by decide +kernel
theorem d_Mod_put_104 : decode prog_8_method_12_code 104 = .ok (.iconst 0, 1) := by decide +kernel
theorem d_Mod_put_105 : decode prog_8_method_12_code 105 = .ok (.putfield 72, 3) := by decide +kernel
theorem d_Mod_put_108 : decode prog_8_method_12_code 108 = .ok (.iload 5, 2) := by decide +kernel
theorem d_Mod_put_110 : decode prog_8_method_12_code 110 = .ok (.ifCond .ge 13, 3) := by decide +kernel
theorem d_Mod_put_113 : decode prog_8_method_12_code 113 = .ok (.aload_n 0, 1) := by decide +kernel
theorem d_Mod_put_114 : decode prog_8_method_12_code 114 = .ok (.iload_n 1, 1) := by decide +kernel
theorem d_Mod_put_115 : decode prog_8_method_12_code 115 = .ok (.iload_n 2, 1) := by decide +kernel
theorem d_Mod_put_116 : decode prog_8_method_12_code 116 = .ok (.lload_n 3, 1) := by decide +kernel
theorem d_Mod_put_117 : decode prog_8_method_12_code 117 = .ok (.invokevirtual 89, 3) := by decide +kernel
theorem d_Mod_put_120 : decode prog_8_method_12_code 120 = .ok (.goto 20, 3) := by decide +kernel
theorem d_Mod_put_123 : decode prog_8_method_12_code 123 = .ok (.aload_n 0, 1) := by decide +kernel
theorem d_Mod_put_124 : decode prog_8_method_12_code 124 = .ok (.iload_n 1, 1) := by decide +kernel
theorem d_Mod_put_125 : decode prog_8_method_12_code 125 = .ok (.iload_n 2, 1) := by decide +kernel
theorem d_Mod_put_126 : decode prog_8_method_12_code 126 = .ok (.invokestatic 56, 3) := by decide +kernel
theorem d_Mod_put_129 : decode prog_8_method_12_code 129 = .ok (.invokevirtual 75, 3) := by decide +kernel
theorem d_Mod_put_132 : decode prog_8_method_12_code 132 = .ok (.aload_n 0, 1) := by decide +kernel
theorem d_Mod_put_133 : decode prog_8_method_12_code 133 = .ok (.getfield 30, 3) := by decide +kernel
theorem d_Mod_put_136 : decode prog_8_method_12_code 136 = .ok (.iload 5, 2) := by decide +kernel
theorem d_Mod_put_138 : decode prog_8_method_12_code 138 = .ok (.lload_n 3, 1) := by decide +kernel
theorem d_Mod_put_139 : decode prog_8_method_12_code 139 = .ok (.lastore, 1) := by decide +kernel
theorem d_Mod_put_140 : decode prog_8_method_12_code 140 = .ok (.iload 5, 2) := by decide +kernel
theorem d_Mod_put_142 : decode prog_8_method_12_code 142 = .ok (.ifCond .ge 7, 3) := by decide +kernel
theorem d_Mod_put_145 : decode prog_8_method_12_code 145 = .ok (.iconst 1, 1) := by decide +kernel
theorem d_Mod_put_146 : decode prog_8_method_12_code 146 = .ok (.goto 4, 3) := by decide +kernel
theorem d_Mod_put_149 : decode prog_8_method_12_code 149 = .ok (.iconst 0, 1) := by decide +kernel
theorem d_Mod_put_150 : decode prog_8_method_12_code 150 = .ok (.ireturn, 1) := by decide +kernel
theorem d_Mod_get_0 : decode prog_8_method_13_code 0 = .ok (.aload_n 0, 1) := by decide +kernel
theorem d_Mod_get_1 : decode prog_8_method_13_code 1 = .ok (.iconst 0, 1) := by decide +kernel
theorem d_Mod_get_2 : decode prog_8_method_13_code 2 = .ok (.putfield 52, 3) := by decide +kernel
theorem d_Mod_get_5 : decode prog_8_method_13_code 5 = .ok (.aload_n 0, 1) := by decide +kernel
theorem d_Mod_get_6 : decode prog_8_method_13_code 6 = .ok (.iload_n 1, 1) := by decide +kernel
theorem d_Mod_get_7 : decode prog_8_method_13_code 7 = .ok (.invokevirtual 79, 3) := by decide +kernel
theorem d_Mod_get_10 : decode prog_8_method_13_code 10 = .ok (.ifCond .eq 10, 3) := by decide +kernel
theorem d_Mod_get_13 : decode prog_8_method_13_code 13 = .ok (.aload_n 0, 1) := by decide +kernel
theorem d_Mod_get_14 : decode prog_8_method_13_code 14 = .ok (.iconst 1, 1) := by decide +kernel
theorem d_Mod_get_15 : decode prog_8_method_13_code 15 = .ok (.invokevirtual 83, 3) := by decide +kernel
theorem d_Mod_get_18 : decode prog_8_method_13_code 18 = .ok (.i2l, 1) := by decide +kernel
theorem d_Mod_get_19 : decode prog_8_method_13_code 19 = .ok (.lreturn, 1) := by decide +kernel
theorem d_Mod_get_20 : decode prog_8_method_13_code 20 = .ok (.aload_n 0, 1) := by decide +kernel
theorem d_Mod_get_21 : decode prog_8_method_13_code 21 = .ok (.iload_n 1, 1) := by decide +kernel
theorem d_Mod_get_22 : decode prog_8_method_13_code 22 = .ok (.iload_n 2, 1) := by decide +kernel
theorem d_Mod_get_23 : decode prog_8_method_13_code 23 = .ok (.invokevirtual 86, 3) := by decide +kernel
theorem d_Mod_get_26 : decode prog_8_method_13_code 26 = .ok (.istore_n 3, 1) := by decide +kernel
theorem d_Mod_get_27 : decode prog_8_method_13_code 27 = .ok (.iload_n 3, 1) := by decide +kernel
theorem d_Mod_get_28 : decode prog_8_method_13_code 28 = .ok (.ifCond .ge 12, 3) := by decide +kernel
theorem d_Mod_get_31 : decode prog_8_method_13_code 31 = .ok (.aload_n 0, 1) := by decide +kernel
theorem d_Mod_get_32 : decode prog_8_method_13_code 32 = .ok (.iconst 2, 1) := by decide +kernel
theorem d_Mod_get_33 : decode prog_8_method_13_code 33 = .ok (.invokevirtual 83, 3) := by decide +kernel
theorem d_Mod_get_36 : decode prog_8_method_13_code 36 = .ok (.i2l, 1) := by decide +kernel
theorem d_Mod_get_37 : decode prog_8_method_13_code 37 = .ok (.goto 9, 3) := by decide +kernel
theorem d_Mod_get_40 : decode prog_8_method_13_code 40 = .ok (.aload_n 0, 1) := by decide +kernel
theorem d_Mod_get_41 : decode prog_8_method_13_code 41 = .ok (.getfield 30, 3) := by decide +kernel
theorem d_Mod_get_44 : decode prog_8_method_13_code 44 = .ok (.iload_n 3, 1) := by decide +kernel
theorem d_Mod_get_45 : decode prog_8_method_13_code 45 = .ok (.laload, 1) := by decide +kernel
theorem d_Mod_get_46 : decode prog_8_method_13_code 46 = .ok (.lreturn, 1) := by decide +kernel
theorem d_Mod_remove_0 : decode prog_8_method_14_code 0 = .ok (.aload_n 0, 1) := by decide +kernel
theorem d_Mod_remove_1 : decode prog_8_method_14_code 1 = .ok (.iconst 0, 1) := by decide +kernel
theorem d_Mod_remove_2 : decode prog_8_method_14_code 2 = .ok (.putfield 52, 3) := by decide +kernel
theorem d_Mod_remove_5 : decode prog_8_method_14_code 5 = .ok (.aload_n 0, 1) := by decide +kernel
theorem d_Mod_remove_6 : decode prog_8_method_14_code 6 = .ok (.iload_n 1, 1) := by decide +kernel
theorem d_Mod_remove_7 : decode prog_8_method_14_code 7 = .ok (.invokevirtual 79, 3) := by decide +kernel
theorem d_Mod_remove_10 : decode prog_8_method_14_code 10 = .ok (.ifCond .eq 10, 3) := by decide +kernel
theorem d_Mod_remove_13 : decode prog_8_method_14_code 13 = .ok (.aload_n 0, 1) := by decide +kernel
theorem d_Mod_remove_14 : decode prog_8_method_14_code 14 = .ok (.iconst 1, 1) := by decide +kernel
theorem d_Mod_remove_15 : decode prog_8_method_14_code 15 = .ok (.invokevirtual 83, 3) := by decide +kernel
theorem d_Mod_remove_18 : decode prog_8_method_14_code 18 = .ok (.i2l, 1) := by decide +kernel
theorem d_Mod_remove_19 : decode prog_8_method_14_code 19 = .ok (.lreturn, 1) := by decide +kernel
theorem d_Mod_remove_20 : decode prog_8_method_14_code 20 = .ok (.aload_n 0, 1) := by decide +kernel
theorem d_Mod_remove_21 : decode prog_8_method_14_code 21 = .ok (.getfield 17, 3) := by decide +kernel
theorem d_Mod_remove_24 : decode prog_8_method_14_code 24 = .ok (.iload_n 1, 1) := by decide +kernel
theorem d_Mod_remove_25 : decode prog_8_method_14_code 25 = .ok (.baload, 1) := by decide +kernel
theorem d_Mod_remove_26 : decode prog_8_method_14_code 26 = .ok (.ifCond .eq 10, 3) := by decide +kernel
theorem d_Mod_remove_29 : decode prog_8_method_14_code 29 = .ok (.aload_n 0, 1) := by decide +kernel
theorem d_Mod_remove_30 : decode prog_8_method_14_code 30 = .ok (.iconst 2, 1) := by decide +kernel
theorem d_Mod_remove_31 : decode prog_8_method_14_code 31 = .ok (.invokevirtual 83, 3) := by decide +kernel
theorem d_Mod_remove_34 : decode prog_8_method_14_code 34 = .ok (.i2l, 1) := by decide +kernel
theorem d_Mod_remove_35 : decode prog_8_method_14_code 35 = .ok (.lreturn, 1) := by decide +kernel
theorem d_Mod_remove_36 : decode prog_8_method_14_code 36 = .ok (.aload_n 0, 1) := by decide +kernel
theorem d_Mod_remove_37 : decode prog_8_method_14_code 37 = .ok (.iload_n 1, 1) := by decide +kernel
theorem d_Mod_remove_38 : decode prog_8_method_14_code 38 = .ok (.iload_n 2, 1) := by decide +kernel
theorem d_Mod_remove_39 : decode prog_8_method_14_code 39 = .ok (.invokevirtual 86, 3) := by decide +kernel
theorem d_Mod_remove_42 : decode prog_8_method_14_code 42 = .ok (.istore_n 3, 1) := by decide +kernel
theorem d_Mod_remove_43 : decode prog_8_method_14_code 43 = .ok (.iload_n 3, 1) := by decide +kernel
theorem d_Mod_remove_44 : decode prog_8_method_14_code 44 = .ok (.ifCond .ge 10, 3) := by decide +kernel
theorem d_Mod_remove_47 : decode prog_8_method_14_code 47 = .ok (.aload_n 0, 1) := by decide +kernel
theorem d_Mod_remove_48 : decode prog_8_method_14_code 48 = .ok (.iconst 3, 1) := by decide +kernel
theorem d_Mod_remove_49 : decode prog_8_method_14_code 49 = .ok (.invokevirtual 83, 3) := by decide +kernel
theorem d_Mod_remove_52 : decode prog_8_method_14_code 52 = .ok (.i2l, 1) := by decide +kernel
theorem d_Mod_remove_53 : decode prog_8_method_14_code 53 = .ok (.lreturn, 1) := by decide +kernel
theorem d_Mod_remove_54 : decode prog_8_method_14_code 54 = .ok (.aload_n 0, 1) := by decide +kernel
theorem d_Mod_remove_55 : decode prog_8_method_14_code 55 = .ok (.iconst 0, 1) := by decide +kernel
theorem d_Mod_remove_56 : decode prog_8_method_14_code 56 = .ok (.putfield 72, 3) := by decide +kernel
theorem d_Mod_remove_59 : decode prog_8_method_14_code 59 = .ok (.aload_n 0, 1) := by decide +kernel
theorem d_Mod_remove_60 : decode prog_8_method_14_code 60 = .ok (.iload_n 1, 1) := by decide +kernel
theorem d_Mod_remove_61 : decode prog_8_method_14_code 61 = .ok (.iload_n 2, 1) := by decide +kernel
theorem d_Mod_remove_62 : decode prog_8_method_14_code 62 = .ok (.invokestatic 56, 3) := by decide +kernel
theorem d_Mod_remove_65 : decode prog_8_method_14_code 65 = .ok (.invokevirtual 75, 3) := by decide +kernel
theorem d_Mod_remove_68 : decode prog_8_method_14_code 68 = .ok (.aload_n 0, 1) := by decide +kernel
theorem d_Mod_remove_69 : decode prog_8_method_14_code 69 = .ok (.getfield 30, 3) := by decide +kernel
theorem d_Mod_remove_72 : decode prog_8_method_14_code 72 = .ok (.iload_n 3, 1) := by decide +kernel
theorem d_Mod_remove_73 : decode prog_8_method_14_code 73 = .ok (.laload, 1) := by decide +kernel
theorem d_Mod_remove_74 : decode prog_8_method_14_code 74 = .ok (.lstore 4, 2) := by decide +kernel
theorem d_Mod_remove_76 : decode prog_8_method_14_code 76 = .ok (.aload_n 0, 1) := by decide +kernel
theorem d_Mod_remove_77 : decode prog_8_method_14_code 77 = .ok (.getfield 24, 3) := by decide +kernel
theorem d_Mod_remove_80 : decode prog_8_method_14_code 80 = .ok (.iload_n 1, 1) := by decide +kernel
theorem d_Mod_remove_81 : decode prog_8_method_14_code 81 = .ok (.dup2, 1) := by decide +kernel
theorem d_Mod_remove_82 : decode prog_8_method_14_code 82 = .ok (.iaload, 1) := by decide +kernel
theorem d_Mod_remove_83 : decode prog_8_method_14_code 83 = .ok (.iconst 1, 1) := by decide +kernel
theorem d_Mod_remove_84 : decode prog_8_method_14_code 84 = .ok (.isub, 1) := by decide +kernel
theorem d_Mod_remove_85 : decode prog_8_method_14_code 85 = .ok (.iastore, 1) := by decide +kernel
theorem d_Mod_remove_86 : decode prog_8_method_14_code 86 = .ok (.iload_n 3, 1) := by decide +kernel
theorem d_Mod_remove_87 : decode prog_8_method_14_code 87 = .ok (.istore 6, 2) := by decide +kernel
theorem d_Mod_remove_89 : decode prog_8_method_14_code 89 = .ok (.iload 6, 2) := by decide +kernel
theorem d_Mod_remove_91 : decode prog_8_method_14_code 91 = .ok (.bipush 60, 2) := by decide +kernel
theorem d_Mod_remove_93 : decode prog_8_method_14_code 93 = .ok (.iload_n 1, 1) := by decide +kernel
theorem d_Mod_remove_94 : decode prog_8_method_14_code 94 = .ok (.imul, 1) := by decide +kernel
theorem d_Mod_remove_95 : decode prog_8_method_14_code 95 = .ok (.aload_n 0, 1) := by decide +kernel
theorem d_Mod_remove_96 : decode prog_8_method_14_code 96 = .ok (.getfield 24, 3) := by decide +kernel
theorem d_Mod_remove_99 : decode prog_8_method_14_code 99 = .ok (.iload_n 1, 1) := by decide +kernel
theorem d_Mod_remove_100 : decode prog_8_method_14_code 100 = .ok (.iaload, 1) := by decide +kernel
theorem d_Mod_remove_101 : decode prog_8_method_14_code 101 = .ok (.iadd, 1) := by decide +kernel
theorem d_Mod_remove_102 : decode prog_8_method_14_code 102 = .ok (.if_icmp .ge 41, 3) := by decide +kernel
theorem d_Mod_remove_105 : decode prog_8_method_14_code 105 = .ok (.aload_n 0, 1) := by decide +kernel
theorem d_Mod_remove_106 : decode prog_8_method_14_code 106 = .ok (.getfield 27, 3) := by decide +kernel
theorem d_Mod_remove_109 : decode prog_8_method_14_code 109 = .ok (.iload 6, 2) := by decide +kernel
theorem d_Mod_remove_111 : decode prog_8_method_14_code 111 = .ok (.aload_n 0, 1) := by decide +kernel
theorem d_Mod_remove_112 : decode prog_8_method_14_code 112 = .ok (.getfield 27, 3) := by decide +kernel
theorem d_Mod_remove_115 : decode prog_8_method_14_code 115 = .ok (.iload 6, 2) := by decide +kernel
theorem d_Mod_remove_117 : decode prog_8_method_14_code 117 = .ok (.iconst 1, 1) := by decide +kernel
theorem d_Mod_remove_118 : decode prog_8_method_14_code 118 = .ok (.iadd, 1) := by decide +kernel
theorem d_Mod_remove_119 : decode prog_8_method_14_code 119 = .ok (.iaload, 1) := by decide +kernel
theorem d_Mod_remove_120 : decode prog_8_method_14_code 120 = .ok (.iastore, 1) := by decide +kernel
theorem d_Mod_remove_121 : decode prog_8_method_14_code 121 = .ok (.aload_n 0, 1) := by decide +kernel
theorem d_Mod_remove_122 : decode prog_8_method_14_code 122 = .ok (.getfield 30, 3) := by decide +kernel
theorem d_Mod_remove_125 : decode prog_8_method_14_code 125 = .ok (.iload 6, 2) := by decide +kernel
theorem d_Mod_remove_127 : decode prog_8_method_14_code 127 = .ok (.aload_n 0, 1) := by decide +kernel
theorem d_Mod_remove_128 : decode prog_8_method_14_code 128 = .ok (.getfield 30, 3) := by decide +kernel
theorem d_Mod_remove_131 : decode prog_8_method_14_code 131 = .ok (.iload 6, 2) := by decide +kernel
theorem d_Mod_remove_133 : decode prog_8_method_14_code 133 = .ok (.iconst 1, 1) := by decide +kernel
theorem d_Mod_remove_134 : decode prog_8_method_14_code 134 = .ok (.iadd, 1) := by decide +kernel
theorem d_Mod_remove_135 : decode prog_8_method_14_code 135 = .ok (.laload, 1) := by decide +kernel
theorem d_Mod_remove_136 : decode prog_8_method_14_code 136 = .ok (.lastore, 1) := by decide +kernel
theorem d_Mod_remove_137 : decode prog_8_method_14_code 137 = .ok (.iinc 6 1, 3) := by decide +kernel
theorem d_Mod_remove_140 : decode prog_8_method_14_code 140 = .ok (.goto (-51), 3) := by decide +kernel
theorem d_Mod_remove_143 : decode prog_8_method_14_code 143 = .ok (.lload 4, 2) := by decide +kernel
theorem d_Mod_remove_145 : decode prog_8_method_14_code 145 = .ok (.lreturn, 1) := by decide +kernel
theorem d_Mod_replace_0 : decode prog_8_method_15_code 0 = .ok (.aload_n 0, 1) := by decide +kernel
theorem d_Mod_replace_1 : decode prog_8_method_15_code 1 = .ok (.iconst 0, 1) := by decide +kernel
theorem d_Mod_replace_2 : decode prog_8_method_15_code 2 = .ok (.putfield 52, 3) := by decide +kernel
theorem d_Mod_replace_5 : decode prog_8_method_15_code 5 = .ok (.aload_n 0, 1) := by decide +kernel
theorem d_Mod_replace_6 : decode prog_8_method_15_code 6 = .ok (.iload_n 1, 1) := by decide +kernel
theorem d_Mod_replace_7 : decode prog_8_method_15_code 7 = .ok (.invokevirtual 79, 3) := by decide +kernel
theorem d_Mod_replace_10 : decode prog_8_method_15_code 10 = .ok (.ifCond .eq 17, 3) := by decide +kernel
theorem d_Mod_replace_13 : decode prog_8_method_15_code 13 = .ok (.aload_n 0, 1) := by decide +kernel
theorem d_Mod_replace_14 : decode prog_8_method_15_code 14 = .ok (.iconst 1, 1) := by decide +kernel
theorem d_Mod_replace_15 : decode prog_8_method_15_code 15 = .ok (.invokevirtual 83, 3) := by decide +kernel
theorem d_Mod_replace_18 : decode prog_8_method_15_code 18 = .ok (.ifCond .le 7, 3) := by decide +kernel
theorem d_Mod_replace_21 : decode prog_8_method_15_code 21 = .ok (.iconst 1, 1) := by decide +kernel
theorem d_Mod_replace_22 : decode prog_8_method_15_code 22 = .ok (.goto 4, 3) := by decide +kernel
theorem d_Mod_replace_25 : decode prog_8_method_15_code 25 = .ok (.iconst 0, 1) := by decide +kernel
theorem d_Mod_replace_26 : decode prog_8_method_15_code 26 = .ok (.ireturn, 1) := by decide +kernel
theorem d_Mod_replace_27 : decode prog_8_method_15_code 27 = .ok (.aload_n 0, 1) := by decide +kernel
theorem d_Mod_replace_28 : decode prog_8_method_15_code 28 = .ok (.getfield 17, 3) := by decide +kernel
theorem d_Mod_replace_31 : decode prog_8_method_15_code 31 = .ok (.iload_n 1, 1) := by decide +kernel
theorem d_Mod_replace_32 : decode prog_8_method_15_code 32 = .ok (.baload, 1) := by decide +kernel
theorem d_Mod_replace_33 : decode prog_8_method_15_code 33 = .ok (.ifCond .eq 17, 3) := by decide +kernel
theorem d_Mod_replace_36 : decode prog_8_method_15_code 36 = .ok (.aload_n 0, 1) := by decide +kernel
theorem d_Mod_replace_37 : decode prog_8_method_15_code 37 = .ok (.iconst 2, 1) := by decide +kernel
theorem d_Mod_replace_38 : decode prog_8_method_15_code 38 = .ok (.invokevirtual 83, 3) := by decide +kernel
theorem d_Mod_replace_41 : decode prog_8_method_15_code 41 = .ok (.ifCond .le 7, 3) := by decide +kernel
theorem d_Mod_replace_44 : decode prog_8_method_15_code 44 = .ok (.iconst 1, 1) := by decide +kernel
theorem d_Mod_replace_45 : decode prog_8_method_15_code 45 = .ok (.goto 4, 3) := by decide +kernel
theorem d_Mod_replace_48 : decode prog_8_method_15_code 48 = .ok (.iconst 0, 1) := by decide +kernel
theorem d_Mod_replace_49 : decode prog_8_method_15_code 49 = .ok (.ireturn, 1) := by decide +kernel
theorem d_Mod_replace_50 : decode prog_8_method_15_code 50 = .ok (.aload_n 0, 1) := by decide +kernel
theorem d_Mod_replace_51 : decode prog_8_method_15_code 51 = .ok (.iconst 0, 1) := by decide +kernel
theorem d_Mod_replace_52 : decode prog_8_method_15_code 52 = .ok (.putfield 72, 3) := by decide +kernel
theorem d_Mod_replace_55 : decode prog_8_method_15_code 55 = .ok (.aload_n 0, 1) := by decide +kernel
theorem d_Mod_replace_56 : decode prog_8_method_15_code 56 = .ok (.iload_n 1, 1) := by decide +kernel
theorem d_Mod_replace_57 : decode prog_8_method_15_code 57 = .ok (.iload_n 2, 1) := by decide +kernel
theorem d_Mod_replace_58 : decode prog_8_method_15_code 58 = .ok (.invokevirtual 86, 3) := by decide +kernel
theorem d_Mod_replace_61 : decode prog_8_method_15_code 61 = .ok (.istore 7, 2) := by decide +kernel
theorem d_Mod_replace_63 : decode prog_8_method_15_code 63 = .ok (.iload 7, 2) := by decide +kernel
theorem d_Mod_replace_65 : decode prog_8_method_15_code 65 = .ok (.ifCond .lt 15, 3) := by decide +kernel
theorem d_Mod_replace_68 : decode prog_8_method_15_code 68 = .ok (.aload_n 0, 1) := by decide +kernel
theorem d_Mod_replace_69 : decode prog_8_method_15_code 69 = .ok (.getfield 30, 3) := by decide +kernel
theorem d_Mod_replace_72 : decode prog_8_method_15_code 72 = .ok (.iload 7, 2) := by decide +kernel
theorem d_Mod_replace_74 : decode prog_8_method_15_code 74 = .ok (.laload, 1) := by decide +kernel
theorem d_Mod_replace_75 : decode prog_8_method_15_code 75 = .ok (.lload_n 3, 1) := by decide +kernel
theorem d_Mod_replace_76 : decode prog_8_method_15_code 76 = .ok (.lcmp, 1) := by decide +kernel
theorem d_Mod_replace_77 : decode prog_8_method_15_code 77 = .ok (.ifCond .eq 5, 3) := by decide +kernel
theorem d_Mod_replace_80 : decode prog_8_method_15_code 80 = .ok (.iconst 0, 1) := by decide +kernel
theorem d_Mod_replace_81 : decode prog_8_method_15_code 81 = .ok (.ireturn, 1) := by decide +kernel
theorem d_Mod_replace_82 : decode prog_8_method_15_code 82 = .ok (.aload_n 0, 1) := by decide +kernel
theorem d_Mod_replace_83 : decode prog_8_method_15_code 83 = .ok (.iload_n 1, 1) := by decide +kernel
theorem d_Mod_replace_84 : decode prog_8_method_15_code 84 = .ok (.iload_n 2, 1) := by decide +kernel
theorem d_Mod_replace_85 : decode prog_8_method_15_code 85 = .ok (.invokestatic 56, 3) := by decide +kernel
theorem d_Mod_replace_88 : decode prog_8_method_15_code 88 = .ok (.invokevirtual 75, 3) := by decide +kernel
theorem d_Mod_replace_91 : decode prog_8_method_15_code 91 = .ok (.aload_n 0, 1) := by decide +kernel
theorem d_Mod_replace_92 : decode prog_8_method_15_code 92 = .ok (.getfield 30, 3) := by decide +kernel
theorem d_Mod_replace_95 : decode prog_8_method_15_code 95 = .ok (.iload 7, 2) := by decide +kernel
theorem d_Mod_replace_97 : decode prog_8_method_15_code 97 = .ok (.lload 5, 2) := by decide +kernel
theorem d_Mod_replace_99 : decode prog_8_method_15_code 99 = .ok (.lastore, 1) := by decide +kernel
theorem d_Mod_replace_100 : decode prog_8_method_15_code 100 = .ok (.iconst 1, 1) := by decide +kernel
theorem d_Mod_replace_101 : decode prog_8_method_15_code 101 = .ok (.ireturn, 1) := by decide +kernel
theorem d_Mod_fresh_0 : decode prog_8_method_16_code 0 = .ok (.aload_n 0, 1) := by decide +kernel
theorem d_Mod_fresh_1 : decode prog_8_method_16_code 1 = .ok (.dup, 1) := by decide +kernel
theorem d_Mod_fresh_2 : decode prog_8_method_16_code 2 = .ok (.getfield 7, 3) := by decide +kernel
theorem d_Mod_fresh_5 : decode prog_8_method_16_code 5 = .ok (.iconst 1, 1) := by decide +kernel
theorem d_Mod_fresh_6 : decode prog_8_method_16_code 6 = .ok (.iadd, 1) := by decide +kernel
theorem d_Mod_fresh_7 : decode prog_8_method_16_code 7 = .ok (.putfield 7, 3) := by decide +kernel
theorem d_Mod_fresh_10 : decode prog_8_method_16_code 10 = .ok (.aload_n 0, 1) := by decide +kernel
theorem d_Mod_fresh_11 : decode prog_8_method_16_code 11 = .ok (.getfield 7, 3) := by decide +kernel
theorem d_Mod_fresh_14 : decode prog_8_method_16_code 14 = .ok (.ireturn, 1) := by decide +kernel
theorem d_Mod_snapshot_0 : decode prog_8_method_17_code 0 = .ok (.aload_n 0, 1) := by decide +kernel
theorem d_Mod_snapshot_1 : decode prog_8_method_17_code 1 = .ok (.iconst 0, 1) := by decide +kernel
theorem d_Mod_snapshot_2 : decode prog_8_method_17_code 2 = .ok (.putfield 52, 3) := by decide +kernel
theorem d_Mod_snapshot_5 : decode prog_8_method_17_code 5 = .ok (.aload_n 0, 1) := by decide +kernel
theorem d_Mod_snapshot_6 : decode prog_8_method_17_code 6 = .ok (.iload_n 1, 1) := by decide +kernel
theorem d_Mod_snapshot_7 : decode prog_8_method_17_code 7 = .ok (.invokevirtual 79, 3) := by decide +kernel
theorem d_Mod_snapshot_10 : decode prog_8_method_17_code 10 = .ok (.ifCond .eq 9, 3) := by decide +kernel
theorem d_Mod_snapshot_13 : decode prog_8_method_17_code 13 = .ok (.aload_n 0, 1) := by decide +kernel
theorem d_Mod_snapshot_14 : decode prog_8_method_17_code 14 = .ok (.iconst 1, 1) := by decide +kernel
theorem d_Mod_snapshot_15 : decode prog_8_method_17_code 15 = .ok (.invokevirtual 83, 3) := by decide +kernel
theorem d_Mod_snapshot_18 : decode prog_8_method_17_code 18 = .ok (.ireturn, 1) := by decide +kernel
theorem d_Mod_snapshot_19 : decode prog_8_method_17_code 19 = .ok (.iconst (-1), 1) := by decide +kernel
theorem d_Mod_snapshot_20 : decode prog_8_method_17_code 20 = .ok (.istore_n 3, 1) := by decide +kernel
theorem d_Mod_snapshot_21 : decode prog_8_method_17_code 21 = .ok (.iconst 5, 1) := by decide +kernel
theorem d_Mod_snapshot_22 : decode prog_8_method_17_code 22 = .ok (.istore 4, 2) := by decide +kernel
theorem d_Mod_snapshot_24 : decode prog_8_method_17_code 24 = .ok (.iload 4, 2) := by decide +kernel
theorem d_Mod_snapshot_26 : decode prog_8_method_17_code 26 = .ok (.ifCond .lt 26, 3) := by decide +kernel
theorem d_Mod_snapshot_29 : decode prog_8_method_17_code 29 = .ok (.aload_n 0, 1) := by decide +kernel
theorem d_Mod_snapshot_30 : decode prog_8_method_17_code 30 = .ok (.getfield 13, 3) := by decide +kernel
theorem d_Mod_snapshot_33 : decode prog_8_method_17_code 33 = .ok (.iload 4, 2) := by decide +kernel
theorem d_Mod_snapshot_35 : decode prog_8_method_17_code 35 = .ok (.baload, 1) := by decide +kernel
theorem d_Mod_snapshot_36 : decode prog_8_method_17_code 36 = .ok (.ifCond .eq 7, 3) := by decide +kernel
theorem d_Mod_snapshot_39 : decode prog_8_method_17_code 39 = .ok (.iload_n 3, 1) := by decide +kernel
theorem d_Mod_snapshot_40 : decode prog_8_method_17_code 40 = .ok (.goto 5, 3) := by decide +kernel
theorem d_Mod_snapshot_43 : decode prog_8_method_17_code 43 = .ok (.iload 4, 2) := by decide +kernel
theorem d_Mod_snapshot_45 : decode prog_8_method_17_code 45 = .ok (.istore_n 3, 1) := by decide +kernel
theorem d_Mod_snapshot_46 : decode prog_8_method_17_code 46 = .ok (.iinc 4 (-1), 3) := by decide +kernel
theorem d_Mod_snapshot_49 : decode prog_8_method_17_code 49 = .ok (.goto (-25), 3) := by decide +kernel
theorem d_Mod_snapshot_52 : decode prog_8_method_17_code 52 = .ok (.iload_n 3, 1) := by decide +kernel
theorem d_Mod_snapshot_53 : decode prog_8_method_17_code 53 = .ok (.ifCond .ge 9, 3) := by decide +kernel
theorem d_Mod_snapshot_56 : decode prog_8_method_17_code 56 = .ok (.aload_n 0, 1) := by decide +kernel
theorem d_Mod_snapshot_57 : decode prog_8_method_17_code 57 = .ok (.iconst 2, 1) := by decide +kernel
theorem d_Mod_snapshot_58 : decode prog_8_method_17_code 58 = .ok (.invokevirtual 83, 3) := by decide +kernel
theorem d_Mod_snapshot_61 : decode prog_8_method_17_code 61 = .ok (.ireturn, 1) := by decide +kernel
theorem d_Mod_snapshot_62 : decode prog_8_method_17_code 62 = .ok (.aload_n 0, 1) := by decide +kernel
theorem d_Mod_snapshot_63 : decode prog_8_method_17_code 63 = .ok (.getfield 13, 3) := by decide +kernel
theorem d_Mod_snapshot_66 : decode prog_8_method_17_code 66 = .ok (.iload_n 3, 1) := by decide +kernel
theorem d_Mod_snapshot_67 : decode prog_8_method_17_code 67 = .ok (.iconst 1, 1) := by decide +kernel
theorem d_Mod_snapshot_68 : decode prog_8_method_17_code 68 = .ok (.bastore, 1) := by decide +kernel
theorem d_Mod_snapshot_69 : decode prog_8_method_17_code 69 = .ok (.aload_n 0, 1) := by decide +kernel
theorem d_Mod_snapshot_70 : decode prog_8_method_17_code 70 = .ok (.getfield 17, 3) := by decide +kernel
theorem d_Mod_snapshot_73 : decode prog_8_method_17_code 73 = .ok (.iload_n 3, 1) := by decide +kernel
theorem d_Mod_snapshot_74 : decode prog_8_method_17_code 74 = .ok (.iload_n 2, 1) := by decide +kernel
theorem d_Mod_snapshot_75 : decode prog_8_method_17_code 75 = .ok (.bastore, 1) := by decide +kernel
theorem d_Mod_snapshot_76 : decode prog_8_method_17_code 76 = .ok (.aload_n 0, 1) := by decide +kernel
theorem d_Mod_snapshot_77 : decode prog_8_method_17_code 77 = .ok (.getfield 24, 3) := by decide +kernel
theorem d_Mod_snapshot_80 : decode prog_8_method_17_code 80 = .ok (.iload_n 3, 1) := by decide +kernel
theorem d_Mod_snapshot_81 : decode prog_8_method_17_code 81 = .ok (.aload_n 0, 1) := by decide +kernel
theorem d_Mod_snapshot_82 : decode prog_8_method_17_code 82 = .ok (.getfield 24, 3) := by decide +kernel
theorem d_Mod_snapshot_85 : decode prog_8_method_17_code 85 = .ok (.iload_n 1, 1) := by decide +kernel
theorem d_Mod_snapshot_86 : decode prog_8_method_17_code 86 = .ok (.iaload, 1) := by decide +kernel
theorem d_Mod_snapshot_87 : decode prog_8_method_17_code 87 = .ok (.iastore, 1) := by decide +kernel
theorem d_Mod_snapshot_88 : decode prog_8_method_17_code 88 = .ok (.iconst 0, 1) := by decide +kernel
theorem d_Mod_snapshot_89 : decode prog_8_method_17_code 89 = .ok (.istore 4, 2) := by decide +kernel
theorem d_Mod_snapshot_91 : decode prog_8_method_17_code 91 = .ok (.iload 4, 2) := by decide +kernel
theorem d_Mod_snapshot_93 : decode prog_8_method_17_code 93 = .ok (.aload_n 0, 1) := by decide +kernel
theorem d_Mod_snapshot_94 : decode prog_8_method_17_code 94 = .ok (.getfield 24, 3) := by decide +kernel
theorem d_Mod_snapshot_97 : decode prog_8_method_17_code 97 = .ok (.iload_n 3, 1) := by decide +kernel
theorem d_Mod_snapshot_98 : decode prog_8_method_17_code 98 = .ok (.iaload, 1) := by decide +kernel
theorem d_Mod_snapshot_99 : decode prog_8_method_17_code 99 = .ok (.if_icmp .ge 57, 3) := by decide +kernel
theorem d_Mod_snapshot_102 : decode prog_8_method_17_code 102 = .ok (.aload_n 0, 1) := by decide +kernel
theorem d_Mod_snapshot_103 : decode prog_8_method_17_code 103 = .ok (.getfield 27, 3) := by decide +kernel
theorem d_Mod_snapshot_106 : decode prog_8_method_17_code 106 = .ok (.bipush 60, 2) := by decide +kernel
theorem d_Mod_snapshot_108 : decode prog_8_method_17_code 108 = .ok (.iload_n 3, 1) := by decide +kernel
theorem d_Mod_snapshot_109 : decode prog_8_method_17_code 109 = .ok (.imul, 1) := by decide +kernel
theorem d_Mod_snapshot_110 : decode prog_8_method_17_code 110 = .ok (.iload 4, 2) := by decide +kernel
theorem d_Mod_snapshot_112 : decode prog_8_method_17_code 112 = .ok (.iadd, 1) := by decide +kernel
theorem d_Mod_snapshot_113 : decode prog_8_method_17_code 113 = .ok (.aload_n 0, 1) := by decide +kernel
theorem d_Mod_snapshot_114 : decode prog_8_method_17_code 114 = .ok (.getfield 27, 3) := by decide +kernel
theorem d_Mod_snapshot_117 : decode prog_8_method_17_code 117 = .ok (.bipush 60, 2) := by decide +kernel
theorem d_Mod_snapshot_119 : decode prog_8_method_17_code 119 = .ok (.iload_n 1, 1) := by decide +kernel
theorem d_Mod_snapshot_120 : decode prog_8_method_17_code 120 = .ok (.imul, 1) := by decide +kernel
theorem d_Mod_snapshot_121 : decode prog_8_method_17_code 121 = .ok (.iload 4, 2) := by decide +kernel
theorem d_Mod_snapshot_123 : decode prog_8_method_17_code 123 = .ok (.iadd, 1) := by decide +kernel
theorem d_Mod_snapshot_124 : decode prog_8_method_17_code 124 = .ok (.iaload, 1) := by decide +kernel
theorem d_Mod_snapshot_125 : decode prog_8_method_17_code 125 = .ok (.iastore, 1) := by decide +kernel
theorem d_Mod_snapshot_126 : decode prog_8_method_17_code 126 = .ok (.aload_n 0, 1) := by decide +kernel
theorem d_Mod_snapshot_127 : decode prog_8_method_17_code 127 = .ok (.getfield 30, 3) := by decide +kernel
theorem d_Mod_snapshot_130 : decode prog_8_method_17_code 130 = .ok (.bipush 60, 2) := by decide +kernel
theorem d_Mod_snapshot_132 : decode prog_8_method_17_code 132 = .ok (.iload_n 3, 1) := by decide +kernel
theorem d_Mod_snapshot_133 : decode prog_8_method_17_code 133 = .ok (.imul, 1) := by decide +kernel
theorem d_Mod_snapshot_134 : decode prog_8_method_17_code 134 = .ok (.iload 4, 2) := by decide +kernel
theorem d_Mod_snapshot_136 : decode prog_8_method_17_code 136 = .ok (.iadd, 1) := by decide +kernel
theorem d_Mod_snapshot_137 : decode prog_8_method_17_code 137 = .ok (.aload_n 0, 1) := by decide +kernel
theorem d_Mod_snapshot_138 : decode prog_8_method_17_code 138 = .ok (.getfield 30, 3) := by decide +kernel
theorem d_Mod_snapshot_141 : decode prog_8_method_17_code 141 = .ok (.bipush 60, 2) := by decide +kernel
theorem d_Mod_snapshot_143 : decode prog_8_method_17_code 143 = .ok (.iload_n 1, 1) := by decide +kernel
theorem d_Mod_snapshot_144 : decode prog_8_method_17_code 144 = .ok (.imul, 1) := by decide +kernel
theorem d_Mod_snapshot_145 : decode prog_8_method_17_code 145 = .ok (.iload 4, 2) := by decide +kernel
theorem d_Mod_snapshot_147 : decode prog_8_method_17_code 147 = .ok (.iadd, 1) := by decide +kernel
theorem d_Mod_snapshot_148 : decode prog_8_method_17_code 148 = .ok (.laload, 1) := by decide +kernel
theorem d_Mod_snapshot_149 : decode prog_8_method_17_code 149 = .ok (.lastore, 1) := by decide +kernel
theorem d_Mod_snapshot_150 : decode prog_8_method_17_code 150 = .ok (.iinc 4 1, 3) := by decide +kernel
theorem d_Mod_snapshot_153 : decode prog_8_method_17_code 153 = .ok (.goto (-62), 3) := by decide +kernel
theorem d_Mod_snapshot_156 : decode prog_8_method_17_code 156 = .ok (.iconst 0, 1) := by decide +kernel
theorem d_Mod_snapshot_157 : decode prog_8_method_17_code 157 = .ok (.istore 4, 2) := by decide +kernel
theorem d_Mod_snapshot_159 : decode prog_8_method_17_code 159 = .ok (.iload 4, 2) := by decide +kernel
theorem d_Mod_snapshot_161 : decode prog_8_method_17_code 161 = .ok (.sipush 341, 3) := by decide +kernel
theorem d_Mod_snapshot_164 : decode prog_8_method_17_code 164 = .ok (.if_icmp .ge 35, 3) := by decide +kernel
theorem d_Mod_snapshot_167 : decode prog_8_method_17_code 167 = .ok (.aload_n 0, 1) := by decide +kernel
theorem d_Mod_snapshot_168 : decode prog_8_method_17_code 168 = .ok (.getfield 34, 3) := by decide +kernel
theorem d_Mod_snapshot_171 : decode prog_8_method_17_code 171 = .ok (.sipush 341, 3) := by decide +kernel
theorem d_Mod_snapshot_174 : decode prog_8_method_17_code 174 = .ok (.iload_n 3, 1) := by decide +kernel
theorem d_Mod_snapshot_175 : decode prog_8_method_17_code 175 = .ok (.imul, 1) := by decide +kernel
theorem d_Mod_snapshot_176 : decode prog_8_method_17_code 176 = .ok (.iload 4, 2) := by decide +kernel
theorem d_Mod_snapshot_178 : decode prog_8_method_17_code 178 = .ok (.iadd, 1) := by decide +kernel
theorem d_Mod_snapshot_179 : decode prog_8_method_17_code 179 = .ok (.aload_n 0, 1) := by decide +kernel
theorem d_Mod_snapshot_180 : decode prog_8_method_17_code 180 = .ok (.getfield 34, 3) := by decide +kernel
theorem d_Mod_snapshot_183 : decode prog_8_method_17_code 183 = .ok (.sipush 341, 3) := by decide +kernel
theorem d_Mod_snapshot_186 : decode prog_8_method_17_code 186 = .ok (.iload_n 1, 1) := by decide +kernel
theorem d_Mod_snapshot_187 : decode prog_8_method_17_code 187 = .ok (.imul, 1) := by decide +kernel
theorem d_Mod_snapshot_188 : decode prog_8_method_17_code 188 = .ok (.iload 4, 2) := by decide +kernel
theorem d_Mod_snapshot_190 : decode prog_8_method_17_code 190 = .ok (.iadd, 1) := by decide +kernel
theorem d_Mod_snapshot_191 : decode prog_8_method_17_code 191 = .ok (.iaload, 1) := by decide +kernel
theorem d_Mod_snapshot_192 : decode prog_8_method_17_code 192 = .ok (.iastore, 1) := by decide +kernel
theorem d_Mod_snapshot_193 : decode prog_8_method_17_code 193 = .ok (.iinc 4 1, 3) := by decide +kernel
theorem d_Mod_snapshot_196 : decode prog_8_method_17_code 196 = .ok (.goto (-37), 3) := by decide +kernel
theorem d_Mod_snapshot_199 : decode prog_8_method_17_code 199 = .ok (.aload_n 0, 1) := by decide +kernel
theorem d_Mod_snapshot_200 : decode prog_8_method_17_code 200 = .ok (.getfield 20, 3) := by decide +kernel
theorem d_Mod_snapshot_203 : decode prog_8_method_17_code 203 = .ok (.iload_n 1, 1) := by decide +kernel
theorem d_Mod_snapshot_204 : decode prog_8_method_17_code 204 = .ok (.aload_n 0, 1) := by decide +kernel
theorem d_Mod_snapshot_205 : decode prog_8_method_17_code 205 = .ok (.invokevirtual 93, 3) := by decide +kernel
theorem d_Mod_snapshot_208 : decode prog_8_method_17_code 208 = .ok (.iastore, 1) := by decide +kernel
theorem d_Mod_snapshot_209 : decode prog_8_method_17_code 209 = .ok (.aload_n 0, 1) := by decide +kernel
theorem d_Mod_snapshot_210 : decode prog_8_method_17_code 210 = .ok (.getfield 20, 3) := by decide +kernel
theorem d_Mod_snapshot_213 : decode prog_8_method_17_code 213 = .ok (.iload_n 3, 1) := by decide +kernel
theorem d_Mod_snapshot_214 : decode prog_8_method_17_code 214 = .ok (.aload_n 0, 1) := by decide +kernel
theorem d_Mod_snapshot_215 : decode prog_8_method_17_code 215 = .ok (.invokevirtual 93, 3) := by decide +kernel
theorem d_Mod_snapshot_218 : decode prog_8_method_17_code 218 = .ok (.iastore, 1) := by decide +kernel
theorem d_Mod_snapshot_219 : decode prog_8_method_17_code 219 = .ok (.iload_n 3, 1) := by decide +kernel
theorem d_Mod_snapshot_220 : decode prog_8_method_17_code 220 = .ok (.ireturn, 1) := by decide +kernel
theorem d_Mod_drop_0 : decode prog_8_method_18_code 0 = .ok (.aload_n 0, 1) := by decide +kernel
theorem d_Mod_drop_1 : decode prog_8_method_18_code 1 = .ok (.iconst 0, 1) := by decide +kernel
theorem d_Mod_drop_2 : decode prog_8_method_18_code 2 = .ok (.putfield 52, 3) := by decide +kernel
theorem d_Mod_drop_5 : decode prog_8_method_18_code 5 = .ok (.aload_n 0, 1) := by decide +kernel
theorem d_Mod_drop_6 : decode prog_8_method_18_code 6 = .ok (.iload_n 1, 1) := by decide +kernel
theorem d_Mod_drop_7 : decode prog_8_method_18_code 7 = .ok (.invokevirtual 79, 3) := by decide +kernel
theorem d_Mod_drop_10 : decode prog_8_method_18_code 10 = .ok (.ifCond .eq 9, 3) := by decide +kernel
theorem d_Mod_drop_13 : decode prog_8_method_18_code 13 = .ok (.aload_n 0, 1) := by decide +kernel
theorem d_Mod_drop_14 : decode prog_8_method_18_code 14 = .ok (.iconst 1, 1) := by decide +kernel
theorem d_Mod_drop_15 : decode prog_8_method_18_code 15 = .ok (.invokevirtual 83, 3) := by decide +kernel
theorem d_Mod_drop_18 : decode prog_8_method_18_code 18 = .ok (.ireturn, 1) := by decide +kernel
theorem d_Mod_drop_19 : decode prog_8_method_18_code 19 = .ok (.iload_n 1, 1) := by decide +kernel
theorem d_Mod_drop_20 : decode prog_8_method_18_code 20 = .ok (.ifCond .ne 9, 3) := by decide +kernel
theorem d_Mod_drop_23 : decode prog_8_method_18_code 23 = .ok (.aload_n 0, 1) := by decide +kernel
theorem d_Mod_drop_24 : decode prog_8_method_18_code 24 = .ok (.iconst 2, 1) := by decide +kernel
theorem d_Mod_drop_25 : decode prog_8_method_18_code 25 = .ok (.invokevirtual 83, 3) := by decide +kernel
theorem d_Mod_drop_28 : decode prog_8_method_18_code 28 = .ok (.ireturn, 1) := by decide +kernel
theorem d_Mod_drop_29 : decode prog_8_method_18_code 29 = .ok (.aload_n 0, 1) := by decide +kernel
theorem d_Mod_drop_30 : decode prog_8_method_18_code 30 = .ok (.getfield 13, 3) := by decide +kernel
theorem d_Mod_drop_33 : decode prog_8_method_18_code 33 = .ok (.iload_n 1, 1) := by decide +kernel
theorem d_Mod_drop_34 : decode prog_8_method_18_code 34 = .ok (.iconst 0, 1) := by decide +kernel
theorem d_Mod_drop_35 : decode prog_8_method_18_code 35 = .ok (.bastore, 1) := by decide +kernel
theorem d_Mod_drop_36 : decode prog_8_method_18_code 36 = .ok (.aload_n 0, 1) := by decide +kernel
theorem d_Mod_drop_37 : decode prog_8_method_18_code 37 = .ok (.getfield 24, 3) := by decide +kernel
theorem d_Mod_drop_40 : decode prog_8_method_18_code 40 = .ok (.iload_n 1, 1) := by decide +kernel
theorem d_Mod_drop_41 : decode prog_8_method_18_code 41 = .ok (.iaload, 1) := by decide +kernel
theorem d_Mod_drop_42 : decode prog_8_method_18_code 42 = .ok (.ireturn, 1) := by decide +kernel
theorem d_Mod_iterate_0 : decode prog_8_method_19_code 0 = .ok (.aload_n 0, 1) := by decide +kernel
theorem d_Mod_iterate_1 : decode prog_8_method_19_code 1 = .ok (.iconst 0, 1) := by decide +kernel
theorem d_Mod_iterate_2 : decode prog_8_method_19_code 2 = .ok (.putfield 52, 3) := by decide +kernel
theorem d_Mod_iterate_5 : decode prog_8_method_19_code 5 = .ok (.aload_n 0, 1) := by decide +kernel
theorem d_Mod_iterate_6 : decode prog_8_method_19_code 6 = .ok (.iload_n 1, 1) := by decide +kernel
theorem d_Mod_iterate_7 : decode prog_8_method_19_code 7 = .ok (.invokevirtual 79, 3) := by decide +kernel
theorem d_Mod_iterate_10 : decode prog_8_method_19_code 10 = .ok (.ifCond .eq 9, 3) := by decide +kernel
theorem d_Mod_iterate_13 : decode prog_8_method_19_code 13 = .ok (.aload_n 0, 1) := by decide +kernel
theorem d_Mod_iterate_14 : decode prog_8_method_19_code 14 = .ok (.iconst 1, 1) := by decide +kernel
theorem d_Mod_iterate_15 : decode prog_8_method_19_code 15 = .ok (.invokevirtual 83, 3) := by decide +kernel
theorem d_Mod_iterate_18 : decode prog_8_method_19_code 18 = .ok (.ireturn, 1) := by decide +kernel
theorem d_Mod_iterate_19 : decode prog_8_method_19_code 19 = .ok (.iconst (-1), 1) := by decide +kernel
theorem d_Mod_iterate_20 : decode prog_8_method_19_code 20 = .ok (.istore_n 2, 1) := by decide +kernel
theorem d_Mod_iterate_21 : decode prog_8_method_19_code 21 = .ok (.iconst 3, 1) := by decide +kernel
theorem d_Mod_iterate_22 : decode prog_8_method_19_code 22 = .ok (.istore_n 3, 1) := by decide +kernel
theorem d_Mod_iterate_23 : decode prog_8_method_19_code 23 = .ok (.iload_n 3, 1) := by decide +kernel
theorem d_Mod_iterate_24 : decode prog_8_method_19_code 24 = .ok (.ifCond .lt 24, 3) := by decide +kernel
theorem d_Mod_iterate_27 : decode prog_8_method_19_code 27 = .ok (.aload_n 0, 1) := by decide +kernel
theorem d_Mod_iterate_28 : decode prog_8_method_19_code 28 = .ok (.getfield 37, 3) := by decide +kernel
theorem d_Mod_iterate_31 : decode prog_8_method_19_code 31 = .ok (.iload_n 3, 1) := by decide +kernel
theorem d_Mod_iterate_32 : decode prog_8_method_19_code 32 = .ok (.baload, 1) := by decide +kernel
theorem d_Mod_iterate_33 : decode prog_8_method_19_code 33 = .ok (.ifCond .eq 7, 3) := by decide +kernel
theorem d_Mod_iterate_36 : decode prog_8_method_19_code 36 = .ok (.iload_n 2, 1) := by decide +kernel
theorem d_Mod_iterate_37 : decode prog_8_method_19_code 37 = .ok (.goto 4, 3) := by decide +kernel
theorem d_Mod_iterate_40 : decode prog_8_method_19_code 40 = .ok (.iload_n 3, 1) := by decide +kernel
theorem d_Mod_iterate_41 : decode prog_8_method_19_code 41 = .ok (.istore_n 2, 1) := by decide +kernel
theorem d_Mod_iterate_42 : decode prog_8_method_19_code 42 = .ok (.iinc 3 (-1), 3) := by decide +kernel
theorem d_Mod_iterate_45 : decode prog_8_method_19_code 45 = .ok (.goto (-22), 3) := by decide +kernel
theorem d_Mod_iterate_48 : decode prog_8_method_19_code 48 = .ok (.iload_n 2, 1) := by decide +kernel
theorem d_Mod_iterate_49 : decode prog_8_method_19_code 49 = .ok (.ifCond .ge 9, 3) := by decide +kernel
theorem d_Mod_iterate_52 : decode prog_8_method_19_code 52 = .ok (.aload_n 0, 1) := by decide +kernel
theorem d_Mod_iterate_53 : decode prog_8_method_19_code 53 = .ok (.iconst 2, 1) := by decide +kernel
theorem d_Mod_iterate_54 : decode prog_8_method_19_code 54 = .ok (.invokevirtual 83, 3) := by decide +kernel
theorem d_Mod_iterate_57 : decode prog_8_method_19_code 57 = .ok (.ireturn, 1) := by decide +kernel
theorem d_Mod_iterate_58 : decode prog_8_method_19_code 58 = .ok (.aload_n 0, 1) := by decide +kernel
theorem d_Mod_iterate_59 : decode prog_8_method_19_code 59 = .ok (.getfield 37, 3) := by decide +kernel
theorem d_Mod_iterate_62 : decode prog_8_method_19_code 62 = .ok (.iload_n 2, 1) := by decide +kernel
theorem d_Mod_iterate_63 : decode prog_8_method_19_code 63 = .ok (.iconst 1, 1) := by decide +kernel
theorem d_Mod_iterate_64 : decode prog_8_method_19_code 64 = .ok (.bastore, 1) := by decide +kernel
theorem d_Mod_iterate_65 : decode prog_8_method_19_code 65 = .ok (.aload_n 0, 1) := by decide +kernel
theorem d_Mod_iterate_66 : decode prog_8_method_19_code 66 = .ok (.getfield 43, 3) := by decide +kernel
theorem d_Mod_iterate_69 : decode prog_8_method_19_code 69 = .ok (.iload_n 2, 1) := by decide +kernel
theorem d_Mod_iterate_70 : decode prog_8_method_19_code 70 = .ok (.iconst 0, 1) := by decide +kernel
theorem d_Mod_iterate_71 : decode prog_8_method_19_code 71 = .ok (.iastore, 1) := by decide +kernel
theorem d_Mod_iterate_72 : decode prog_8_method_19_code 72 = .ok (.aload_n 0, 1) := by decide +kernel
theorem d_Mod_iterate_73 : decode prog_8_method_19_code 73 = .ok (.getfield 40, 3) := by decide +kernel
theorem d_Mod_iterate_76 : decode prog_8_method_19_code 76 = .ok (.iload_n 2, 1) := by decide +kernel
theorem d_Mod_iterate_77 : decode prog_8_method_19_code 77 = .ok (.iconst 0, 1) := by decide +kernel
theorem d_Mod_iterate_78 : decode prog_8_method_19_code 78 = .ok (.iastore, 1) := by decide +kernel
theorem d_Mod_iterate_79 : decode prog_8_method_19_code 79 = .ok (.iconst 0, 1) := by decide +kernel
theorem d_Mod_iterate_80 : decode prog_8_method_19_code 80 = .ok (.istore_n 3, 1) := by decide +kernel
theorem d_Mod_iterate_81 : decode prog_8_method_19_code 81 = .ok (.iload_n 3, 1) := by decide +kernel
theorem d_Mod_iterate_82 : decode prog_8_method_19_code 82 = .ok (.sipush 256, 3) := by decide +kernel
theorem d_Mod_iterate_85 : decode prog_8_method_19_code 85 = .ok (.if_icmp .ge 107, 3) := by decide +kernel
theorem d_Mod_iterate_88 : decode prog_8_method_19_code 88 = .ok (.bipush 60, 2) := by decide +kernel
theorem d_Mod_iterate_90 : decode prog_8_method_19_code 90 = .ok (.iload_n 1, 1) := by decide +kernel
theorem d_Mod_iterate_91 : decode prog_8_method_19_code 91 = .ok (.imul, 1) := by decide +kernel
theorem d_Mod_iterate_92 : decode prog_8_method_19_code 92 = .ok (.istore 4, 2) := by decide +kernel
theorem d_Mod_iterate_94 : decode prog_8_method_19_code 94 = .ok (.iload 4, 2) := by decide +kernel
theorem d_Mod_iterate_96 : decode prog_8_method_19_code 96 = .ok (.bipush 60, 2) := by decide +kernel
theorem d_Mod_iterate_98 : decode prog_8_method_19_code 98 = .ok (.iload_n 1, 1) := by decide +kernel
theorem d_Mod_iterate_99 : decode prog_8_method_19_code 99 = .ok (.imul, 1) := by decide +kernel
theorem d_Mod_iterate_100 : decode prog_8_method_19_code 100 = .ok (.aload_n 0, 1) := by decide +kernel
theorem d_Mod_iterate_101 : decode prog_8_method_19_code 101 = .ok (.getfield 24, 3) := by decide +kernel
theorem d_Mod_iterate_104 : decode prog_8_method_19_code 104 = .ok (.iload_n 1, 1) := by decide +kernel
theorem d_Mod_iterate_105 : decode prog_8_method_19_code 105 = .ok (.iaload, 1) := by decide +kernel
theorem d_Mod_iterate_106 : decode prog_8_method_19_code 106 = .ok (.iadd, 1) := by decide +kernel
theorem d_Mod_iterate_107 : decode prog_8_method_19_code 107 = .ok (.if_icmp .ge 79, 3) := by decide +kernel
theorem d_Mod_iterate_110 : decode prog_8_method_19_code 110 = .ok (.aload_n 0, 1) := by decide +kernel
theorem d_Mod_iterate_111 : decode prog_8_method_19_code 111 = .ok (.getfield 27, 3) := by decide +kernel
theorem d_Mod_iterate_114 : decode prog_8_method_19_code 114 = .ok (.iload 4, 2) := by decide +kernel
theorem d_Mod_iterate_116 : decode prog_8_method_19_code 116 = .ok (.iaload, 1) := by decide +kernel
theorem d_Mod_iterate_117 : decode prog_8_method_19_code 117 = .ok (.invokestatic 56, 3) := by decide +kernel
theorem d_Mod_iterate_120 : decode prog_8_method_19_code 120 = .ok (.iload_n 3, 1) := by decide +kernel
theorem d_Mod_iterate_121 : decode prog_8_method_19_code 121 = .ok (.if_icmp .ne 59, 3) := by decide +kernel
theorem d_Mod_iterate_124 : decode prog_8_method_19_code 124 = .ok (.aload_n 0, 1) := by decide +kernel
theorem d_Mod_iterate_125 : decode prog_8_method_19_code 125 = .ok (.getfield 46, 3) := by decide +kernel
theorem d_Mod_iterate_128 : decode prog_8_method_19_code 128 = .ok (.bipush 60, 2) := by decide +kernel
theorem d_Mod_iterate_130 : decode prog_8_method_19_code 130 = .ok (.iload_n 2, 1) := by decide +kernel
theorem d_Mod_iterate_131 : decode prog_8_method_19_code 131 = .ok (.imul, 1) := by decide +kernel
theorem d_Mod_iterate_132 : decode prog_8_method_19_code 132 = .ok (.aload_n 0, 1) := by decide +kernel
theorem d_Mod_iterate_133 : decode prog_8_method_19_code 133 = .ok (.getfield 40, 3) := by decide +kernel
theorem d_Mod_iterate_136 : decode prog_8_method_19_code 136 = .ok (.iload_n 2, 1) := by decide +kernel
theorem d_Mod_iterate_137 : decode prog_8_method_19_code 137 = .ok (.iaload, 1) := by decide +kernel
theorem d_Mod_iterate_138 : decode prog_8_method_19_code 138 = .ok (.iadd, 1) := by decide +kernel
theorem d_Mod_iterate_139 : decode prog_8_method_19_code 139 = .ok (.aload_n 0, 1) := by decide +kernel
theorem d_Mod_iterate_140 : decode prog_8_method_19_code 140 = .ok (.getfield 27, 3) := by decide +kernel
theorem d_Mod_iterate_143 : decode prog_8_method_19_code 143 = .ok (.iload 4, 2) := by decide +kernel
theorem d_Mod_iterate_145 : decode prog_8_method_19_code 145 = .ok (.iaload, 1) := by decide +kernel
theorem d_Mod_iterate_146 : decode prog_8_method_19_code 146 = .ok (.iastore, 1) := by decide +kernel
theorem d_Mod_iterate_147 : decode prog_8_method_19_code 147 = .ok (.aload_n 0, 1) := by decide +kernel
theorem d_Mod_iterate_148 : decode prog_8_method_19_code 148 = .ok (.getfield 49, 3) := by decide +kernel
theorem d_Mod_iterate_151 : decode prog_8_method_19_code 151 = .ok (.bipush 60, 2) := by decide +kernel
theorem d_Mod_iterate_153 : decode prog_8_method_19_code 153 = .ok (.iload_n 2, 1) := by decide +kernel
theorem d_Mod_iterate_154 : decode prog_8_method_19_code 154 = .ok (.imul, 1) := by decide +kernel
theorem d_Mod_iterate_155 : decode prog_8_method_19_code 155 = .ok (.aload_n 0, 1) := by decide +kernel
theorem d_Mod_iterate_156 : decode prog_8_method_19_code 156 = .ok (.getfield 40, 3) := by decide +kernel
theorem d_Mod_iterate_159 : decode prog_8_method_19_code 159 = .ok (.iload_n 2, 1) := by decide +kernel
theorem d_Mod_iterate_160 : decode prog_8_method_19_code 160 = .ok (.iaload, 1) := by decide +kernel
theorem d_Mod_iterate_161 : decode prog_8_method_19_code 161 = .ok (.iadd, 1) := by decide +kernel
theorem d_Mod_iterate_162 : decode prog_8_method_19_code 162 = .ok (.aload_n 0, 1) := by decide +kernel
theorem d_Mod_iterate_163 : decode prog_8_method_19_code 163 = .ok (.getfield 30, 3) := by decide +kernel
theorem d_Mod_iterate_166 : decode prog_8_method_19_code 166 = .ok (.iload 4, 2) := by decide +kernel
theorem d_Mod_iterate_168 : decode prog_8_method_19_code 168 = .ok (.laload, 1) := by decide +kernel
theorem d_Mod_iterate_169 : decode prog_8_method_19_code 169 = .ok (.lastore, 1) := by decide +kernel
theorem d_Mod_iterate_170 : decode prog_8_method_19_code 170 = .ok (.aload_n 0, 1) := by decide +kernel
theorem d_Mod_iterate_171 : decode prog_8_method_19_code 171 = .ok (.getfield 40, 3) := by decide +kernel
theorem d_Mod_iterate_174 : decode prog_8_method_19_code 174 = .ok (.iload_n 2, 1) := by decide +kernel
theorem d_Mod_iterate_175 : decode prog_8_method_19_code 175 = .ok (.dup2, 1) := by decide +kernel
theorem d_Mod_iterate_176 : decode prog_8_method_19_code 176 = .ok (.iaload, 1) := by decide +kernel
theorem d_Mod_iterate_177 : decode prog_8_method_19_code 177 = .ok (.iconst 1, 1) := by decide +kernel
theorem d_Mod_iterate_178 : decode prog_8_method_19_code 178 = .ok (.iadd, 1) := by decide +kernel
theorem d_Mod_iterate_179 : decode prog_8_method_19_code 179 = .ok (.iastore, 1) := by decide +kernel
theorem d_Mod_iterate_180 : decode prog_8_method_19_code 180 = .ok (.iinc 4 1, 3) := by decide +kernel
theorem d_Mod_iterate_183 : decode prog_8_method_19_code 183 = .ok (.goto (-89), 3) := by decide +kernel
theorem d_Mod_iterate_186 : decode prog_8_method_19_code 186 = .ok (.iinc 3 1, 3) := by decide +kernel
theorem d_Mod_iterate_189 : decode prog_8_method_19_code 189 = .ok (.goto (-108), 3) := by decide +kernel
theorem d_Mod_iterate_192 : decode prog_8_method_19_code 192 = .ok (.aload_n 0, 1) := by decide +kernel
theorem d_Mod_iterate_193 : decode prog_8_method_19_code 193 = .ok (.getfield 20, 3) := by decide +kernel
theorem d_Mod_iterate_196 : decode prog_8_method_19_code 196 = .ok (.iload_n 1, 1) := by decide +kernel
theorem d_Mod_iterate_197 : decode prog_8_method_19_code 197 = .ok (.aload_n 0, 1) := by decide +kernel
theorem d_Mod_iterate_198 : decode prog_8_method_19_code 198 = .ok (.invokevirtual 93, 3) := by decide +kernel
theorem d_Mod_iterate_201 : decode prog_8_method_19_code 201 = .ok (.iastore, 1) := by decide +kernel
theorem d_Mod_iterate_202 : decode prog_8_method_19_code 202 = .ok (.iload_n 2, 1) := by decide +kernel
theorem d_Mod_iterate_203 : decode prog_8_method_19_code 203 = .ok (.ireturn, 1) := by decide +kernel
theorem d_Mod_next_0 : decode prog_8_method_20_code 0 = .ok (.aload_n 0, 1) := by decide +kernel
theorem d_Mod_next_1 : decode prog_8_method_20_code 1 = .ok (.iconst 0, 1) := by decide +kernel
theorem d_Mod_next_2 : decode prog_8_method_20_code 2 = .ok (.putfield 52, 3) := by decide +kernel
theorem d_Mod_next_5 : decode prog_8_method_20_code 5 = .ok (.iload_n 1, 1) := by decide +kernel
theorem d_Mod_next_6 : decode prog_8_method_20_code 6 = .ok (.ifCond .lt 17, 3) := by decide +kernel
theorem d_Mod_next_9 : decode prog_8_method_20_code 9 = .ok (.iload_n 1, 1) := by decide +kernel
theorem d_Mod_next_10 : decode prog_8_method_20_code 10 = .ok (.iconst 4, 1) := by decide +kernel
theorem d_Mod_next_11 : decode prog_8_method_20_code 11 = .ok (.if_icmp .ge 12, 3) := by decide +kernel
theorem d_Mod_next_14 : decode prog_8_method_20_code 14 = .ok (.aload_n 0, 1) := by decide +kernel
theorem d_Mod_next_15 : decode prog_8_method_20_code 15 = .ok (.getfield 37, 3) := by decide +kernel
theorem d_Mod_next_18 : decode prog_8_method_20_code 18 = .ok (.iload_n 1, 1) := by decide +kernel
theorem d_Mod_next_19 : decode prog_8_method_20_code 19 = .ok (.baload, 1) := by decide +kernel
theorem d_Mod_next_20 : decode prog_8_method_20_code 20 = .ok (.ifCond .ne 9, 3) := by decide +kernel
theorem d_Mod_next_23 : decode prog_8_method_20_code 23 = .ok (.aload_n 0, 1) := by decide +kernel
theorem d_Mod_next_24 : decode prog_8_method_20_code 24 = .ok (.iconst 1, 1) := by decide +kernel
theorem d_Mod_next_25 : decode prog_8_method_20_code 25 = .ok (.invokevirtual 83, 3) := by decide +kernel
theorem d_Mod_next_28 : decode prog_8_method_20_code 28 = .ok (.ireturn, 1) := by decide +kernel
theorem d_Mod_next_29 : decode prog_8_method_20_code 29 = .ok (.aload_n 0, 1) := by decide +kernel
theorem d_Mod_next_30 : decode prog_8_method_20_code 30 = .ok (.getfield 43, 3) := by decide +kernel
theorem d_Mod_next_33 : decode prog_8_method_20_code 33 = .ok (.iload_n 1, 1) := by decide +kernel
theorem d_Mod_next_34 : decode prog_8_method_20_code 34 = .ok (.iaload, 1) := by decide +kernel
theorem d_Mod_next_35 : decode prog_8_method_20_code 35 = .ok (.aload_n 0, 1) := by decide +kernel
theorem d_Mod_next_36 : decode prog_8_method_20_code 36 = .ok (.getfield 40, 3) := by decide +kernel
theorem d_Mod_next_39 : decode prog_8_method_20_code 39 = .ok (.iload_n 1, 1) := by decide +kernel
theorem d_Mod_next_40 : decode prog_8_method_20_code 40 = .ok (.iaload, 1) := by decide +kernel
theorem d_Mod_next_41 : decode prog_8_method_20_code 41 = .ok (.if_icmp .ne 16, 3) := by decide +kernel
theorem d_Mod_next_44 : decode prog_8_method_20_code 44 = .ok (.aload_n 0, 1) := by decide +kernel
theorem d_Mod_next_45 : decode prog_8_method_20_code 45 = .ok (.getfield 37, 3) := by decide +kernel
theorem d_Mod_next_48 : decode prog_8_method_20_code 48 = .ok (.iload_n 1, 1) := by decide +kernel
theorem d_Mod_next_49 : decode prog_8_method_20_code 49 = .ok (.iconst 0, 1) := by decide +kernel
theorem d_Mod_next_50 : decode prog_8_method_20_code 50 = .ok (.bastore, 1) := by decide +kernel
theorem d_Mod_next_51 : decode prog_8_method_20_code 51 = .ok (.aload_n 0, 1) := by decide +kernel
theorem d_Mod_next_52 : decode prog_8_method_20_code 52 = .ok (.iconst 2, 1) := by decide +kernel
theorem d_Mod_next_53 : decode prog_8_method_20_code 53 = .ok (.invokevirtual 83, 3) := by decide +kernel
theorem d_Mod_next_56 : decode prog_8_method_20_code 56 = .ok (.ireturn, 1) := by decide +kernel
theorem d_Mod_next_57 : decode prog_8_method_20_code 57 = .ok (.aload_n 0, 1) := by decide +kernel
theorem d_Mod_next_58 : decode prog_8_method_20_code 58 = .ok (.aload_n 0, 1) := by decide +kernel
theorem d_Mod_next_59 : decode prog_8_method_20_code 59 = .ok (.getfield 49, 3) := by decide +kernel
theorem d_Mod_next_62 : decode prog_8_method_20_code 62 = .ok (.bipush 60, 2) := by decide +kernel
theorem d_Mod_next_64 : decode prog_8_method_20_code 64 = .ok (.iload_n 1, 1) := by decide +kernel
theorem d_Mod_next_65 : decode prog_8_method_20_code 65 = .ok (.imul, 1) := by decide +kernel
theorem d_Mod_next_66 : decode prog_8_method_20_code 66 = .ok (.aload_n 0, 1) := by decide +kernel
theorem d_Mod_next_67 : decode prog_8_method_20_code 67 = .ok (.getfield 43, 3) := by decide +kernel
theorem d_Mod_next_70 : decode prog_8_method_20_code 70 = .ok (.iload_n 1, 1) := by decide +kernel
theorem d_Mod_next_71 : decode prog_8_method_20_code 71 = .ok (.iaload, 1) := by decide +kernel
theorem d_Mod_next_72 : decode prog_8_method_20_code 72 = .ok (.iadd, 1) := by decide +kernel
theorem d_Mod_next_73 : decode prog_8_method_20_code 73 = .ok (.laload, 1) := by decide +kernel
theorem d_Mod_next_74 : decode prog_8_method_20_code 74 = .ok (.putfield 97, 3) := by decide +kernel
theorem d_Mod_next_77 : decode prog_8_method_20_code 77 = .ok (.aload_n 0, 1) := by decide +kernel
theorem d_Mod_next_78 : decode prog_8_method_20_code 78 = .ok (.getfield 43, 3) := by decide +kernel
theorem d_Mod_next_81 : decode prog_8_method_20_code 81 = .ok (.iload_n 1, 1) := by decide +kernel
theorem d_Mod_next_82 : decode prog_8_method_20_code 82 = .ok (.dup2, 1) := by decide +kernel
theorem d_Mod_next_83 : decode prog_8_method_20_code 83 = .ok (.iaload, 1) := by decide +kernel
theorem d_Mod_next_84 : decode prog_8_method_20_code 84 = .ok (.iconst 1, 1) := by decide +kernel
theorem d_Mod_next_85 : decode prog_8_method_20_code 85 = .ok (.iadd, 1) := by decide +kernel
theorem d_Mod_next_86 : decode prog_8_method_20_code 86 = .ok (.iastore, 1) := by decide +kernel
theorem d_Mod_next_87 : decode prog_8_method_20_code 87 = .ok (.aload_n 0, 1) := by decide +kernel
theorem d_Mod_next_88 : decode prog_8_method_20_code 88 = .ok (.getfield 46, 3) := by decide +kernel
theorem d_Mod_next_91 : decode prog_8_method_20_code 91 = .ok (.bipush 60, 2) := by decide +kernel
theorem d_Mod_next_93 : decode prog_8_method_20_code 93 = .ok (.iload_n 1, 1) := by decide +kernel
theorem d_Mod_next_94 : decode prog_8_method_20_code 94 = .ok (.imul, 1) := by decide +kernel
theorem d_Mod_next_95 : decode prog_8_method_20_code 95 = .ok (.aload_n 0, 1) := by decide +kernel
theorem d_Mod_next_96 : decode prog_8_method_20_code 96 = .ok (.getfield 43, 3) := by decide +kernel
theorem d_Mod_next_99 : decode prog_8_method_20_code 99 = .ok (.iload_n 1, 1) := by decide +kernel
theorem d_Mod_next_100 : decode prog_8_method_20_code 100 = .ok (.iaload, 1) := by decide +kernel
theorem d_Mod_next_101 : decode prog_8_method_20_code 101 = .ok (.iadd, 1) := by decide +kernel
theorem d_Mod_next_102 : decode prog_8_method_20_code 102 = .ok (.iconst 1, 1) := by decide +kernel
theorem d_Mod_next_103 : decode prog_8_method_20_code 103 = .ok (.isub, 1) := by decide +kernel
theorem d_Mod_next_104 : decode prog_8_method_20_code 104 = .ok (.iaload, 1) := by decide +kernel
theorem d_Mod_next_105 : decode prog_8_method_20_code 105 = .ok (.ireturn, 1) := by decide +kernel
theorem d_Mod_value_0 : decode prog_8_method_21_code 0 = .ok (.aload_n 0, 1) := by decide +kernel
theorem d_Mod_value_1 : decode prog_8_method_21_code 1 = .ok (.iconst 0, 1) := by decide +kernel
theorem d_Mod_value_2 : decode prog_8_method_21_code 2 = .ok (.putfield 52, 3) := by decide +kernel
theorem d_Mod_value_5 : decode prog_8_method_21_code 5 = .ok (.aload_n 0, 1) := by decide +kernel
theorem d_Mod_value_6 : decode prog_8_method_21_code 6 = .ok (.getfield 97, 3) := by decide +kernel
theorem d_Mod_value_9 : decode prog_8_method_21_code 9 = .ok (.lreturn, 1) := by decide +kernel
theorem d_Mod_copied_0 : decode prog_8_method_22_code 0 = .ok (.aload_n 0, 1) := by decide +kernel
theorem d_Mod_copied_1 : decode prog_8_method_22_code 1 = .ok (.iconst 0, 1) := by decide +kernel
theorem d_Mod_copied_2 : decode prog_8_method_22_code 2 = .ok (.putfield 52, 3) := by decide +kernel
theorem d_Mod_copied_5 : decode prog_8_method_22_code 5 = .ok (.aload_n 0, 1) := by decide +kernel
theorem d_Mod_copied_6 : decode prog_8_method_22_code 6 = .ok (.getfield 72, 3) := by decide +kernel
theorem d_Mod_copied_9 : decode prog_8_method_22_code 9 = .ok (.ireturn, 1) := by decide +kernel
theorem d_Mod_has_0 : decode prog_8_method_23_code 0 = .ok (.aload_n 0, 1) := by decide +kernel
theorem d_Mod_has_1 : decode prog_8_method_23_code 1 = .ok (.iload_n 1, 1) := by decide +kernel
theorem d_Mod_has_2 : decode prog_8_method_23_code 2 = .ok (.iload_n 3, 1) := by decide +kernel
theorem d_Mod_has_3 : decode prog_8_method_23_code 3 = .ok (.bipush 8, 2) := by decide +kernel
theorem d_Mod_has_5 : decode prog_8_method_23_code 5 = .ok (.iconst 2, 1) := by decide +kernel
theorem d_Mod_has_6 : decode prog_8_method_23_code 6 = .ok (.iload_n 2, 1) := by decide +kernel
theorem d_Mod_has_7 : decode prog_8_method_23_code 7 = .ok (.imul, 1) := by decide +kernel
theorem d_Mod_has_8 : decode prog_8_method_23_code 8 = .ok (.isub, 1) := by decide +kernel
theorem d_Mod_has_9 : decode prog_8_method_23_code 9 = .ok (.ishl, 1) := by decide +kernel
theorem d_Mod_has_10 : decode prog_8_method_23_code 10 = .ok (.iload_n 2, 1) := by decide +kernel
theorem d_Mod_has_11 : decode prog_8_method_23_code 11 = .ok (.invokevirtual 68, 3) := by decide +kernel
theorem d_Mod_has_14 : decode prog_8_method_23_code 14 = .ok (.ireturn, 1) := by decide +kernel
theorem d_Mod_measure_0 : decode prog_8_method_24_code 0 = .ok (.aload_n 0, 1) := by decide +kernel
theorem d_Mod_measure_1 : decode prog_8_method_24_code 1 = .ok (.iconst 0, 1) := by decide +kernel
theorem d_Mod_measure_2 : decode prog_8_method_24_code 2 = .ok (.putfield 52, 3) := by decide +kernel
theorem d_Mod_measure_5 : decode prog_8_method_24_code 5 = .ok (.aload_n 0, 1) := by decide +kernel
theorem d_Mod_measure_6 : decode prog_8_method_24_code 6 = .ok (.iload_n 1, 1) := by decide +kernel
theorem d_Mod_measure_7 : decode prog_8_method_24_code 7 = .ok (.invokevirtual 79, 3) := by decide +kernel
theorem d_Mod_measure_10 : decode prog_8_method_24_code 10 = .ok (.ifCond .ne 12, 3) := by decide +kernel
theorem d_Mod_measure_13 : decode prog_8_method_24_code 13 = .ok (.iload_n 2, 1) := by decide +kernel
theorem d_Mod_measure_14 : decode prog_8_method_24_code 14 = .ok (.ifCond .lt 8, 3) := by decide +kernel
theorem d_Mod_measure_17 : decode prog_8_method_24_code 17 = .ok (.iload_n 2, 1) := by decide +kernel
theorem d_Mod_measure_18 : decode prog_8_method_24_code 18 = .ok (.iconst 4, 1) := by decide +kernel
theorem d_Mod_measure_19 : decode prog_8_method_24_code 19 = .ok (.if_icmp .le 9, 3) := by decide +kernel
theorem d_Mod_measure_22 : decode prog_8_method_24_code 22 = .ok (.aload_n 0, 1) := by decide +kernel
theorem d_Mod_measure_23 : decode prog_8_method_24_code 23 = .ok (.iconst 1, 1) := by decide +kernel
theorem d_Mod_measure_24 : decode prog_8_method_24_code 24 = .ok (.invokevirtual 83, 3) := by decide +kernel
theorem d_Mod_measure_27 : decode prog_8_method_24_code 27 = .ok (.ireturn, 1) := by decide +kernel
theorem d_Mod_measure_28 : decode prog_8_method_24_code 28 = .ok (.iconst 0, 1) := by decide +kernel
theorem d_Mod_measure_29 : decode prog_8_method_24_code 29 = .ok (.istore_n 3, 1) := by decide +kernel
theorem d_Mod_measure_30 : decode prog_8_method_24_code 30 = .ok (.iconst 0, 1) := by decide +kernel
theorem d_Mod_measure_31 : decode prog_8_method_24_code 31 = .ok (.istore 4, 2) := by decide +kernel
theorem d_Mod_measure_33 : decode prog_8_method_24_code 33 = .ok (.iconst 0, 1) := by decide +kernel
theorem d_Mod_measure_34 : decode prog_8_method_24_code 34 = .ok (.istore 5, 2) := by decide +kernel
theorem d_Mod_measure_36 : decode prog_8_method_24_code 36 = .ok (.iconst 0, 1) := by decide +kernel
theorem d_Mod_measure_37 : decode prog_8_method_24_code 37 = .ok (.istore 6, 2) := by decide +kernel
theorem d_Mod_measure_39 : decode prog_8_method_24_code 39 = .ok (.iconst 0, 1) := by decide +kernel
theorem d_Mod_measure_40 : decode prog_8_method_24_code 40 = .ok (.istore 7, 2) := by decide +kernel
theorem d_Mod_measure_42 : decode prog_8_method_24_code 42 = .ok (.iload 7, 2) := by decide +kernel
theorem d_Mod_measure_44 : decode prog_8_method_24_code 44 = .ok (.iconst 5, 1) := by decide +kernel
theorem d_Mod_measure_45 : decode prog_8_method_24_code 45 = .ok (.if_icmp .ge 111, 3) := by decide +kernel
theorem d_Mod_measure_48 : decode prog_8_method_24_code 48 = .ok (.iconst 0, 1) := by decide +kernel
theorem d_Mod_measure_49 : decode prog_8_method_24_code 49 = .ok (.istore 8, 2) := by decide +kernel
theorem d_Mod_measure_51 : decode prog_8_method_24_code 51 = .ok (.iload 8, 2) := by decide +kernel
theorem d_Mod_measure_53 : decode prog_8_method_24_code 53 = .ok (.iconst 1, 1) := by decide +kernel
theorem d_Mod_measure_54 : decode prog_8_method_24_code 54 = .ok (.iconst 2, 1) := by decide +kernel
theorem d_Mod_measure_55 : decode prog_8_method_24_code 55 = .ok (.iload 7, 2) := by decide +kernel
theorem d_Mod_measure_57 : decode prog_8_method_24_code 57 = .ok (.imul, 1) := by decide +kernel
theorem d_Mod_measure_58 : decode prog_8_method_24_code 58 = .ok (.ishl, 1) := by decide +kernel
theorem d_Mod_measure_59 : decode prog_8_method_24_code 59 = .ok (.if_icmp .ge 91, 3) := by decide +kernel
theorem d_Mod_measure_62 : decode prog_8_method_24_code 62 = .ok (.aload_n 0, 1) := by decide +kernel
theorem d_Mod_measure_63 : decode prog_8_method_24_code 63 = .ok (.iload_n 1, 1) := by decide +kernel
theorem d_Mod_measure_64 : decode prog_8_method_24_code 64 = .ok (.iload 7, 2) := by decide +kernel
theorem d_Mod_measure_66 : decode prog_8_method_24_code 66 = .ok (.iload 8, 2) := by decide +kernel
theorem d_Mod_measure_68 : decode prog_8_method_24_code 68 = .ok (.invokevirtual 101, 3) := by decide +kernel
theorem d_Mod_measure_71 : decode prog_8_method_24_code 71 = .ok (.ifCond .eq 73, 3) := by decide +kernel
theorem d_Mod_measure_74 : decode prog_8_method_24_code 74 = .ok (.iinc 3 1, 3) := by decide +kernel
theorem d_Mod_measure_77 : decode prog_8_method_24_code 77 = .ok (.iload 4, 2) := by decide +kernel
theorem d_Mod_measure_79 : decode prog_8_method_24_code 79 = .ok (.iload 7, 2) := by decide +kernel
theorem d_Mod_measure_81 : decode prog_8_method_24_code 81 = .ok (.iconst 4, 1) := by decide +kernel
theorem d_Mod_measure_82 : decode prog_8_method_24_code 82 = .ok (.if_icmp .ne 7, 3) := by decide +kernel
theorem d_Mod_measure_85 : decode prog_8_method_24_code 85 = .ok (.iconst 1, 1) := by decide +kernel
theorem d_Mod_measure_86 : decode prog_8_method_24_code 86 = .ok (.goto 4, 3) := by decide +kernel
theorem d_Mod_measure_89 : decode prog_8_method_24_code 89 = .ok (.iconst 0, 1) := by decide +kernel
theorem d_Mod_measure_90 : decode prog_8_method_24_code 90 = .ok (.iadd, 1) := by decide +kernel
theorem d_Mod_measure_91 : decode prog_8_method_24_code 91 = .ok (.istore 4, 2) := by decide +kernel
theorem d_Mod_measure_93 : decode prog_8_method_24_code 93 = .ok (.iload 7, 2) := by decide +kernel
theorem d_Mod_measure_95 : decode prog_8_method_24_code 95 = .ok (.iconst 1, 1) := by decide +kernel
theorem d_Mod_measure_96 : decode prog_8_method_24_code 96 = .ok (.iadd, 1) := by decide +kernel
theorem d_Mod_measure_97 : decode prog_8_method_24_code 97 = .ok (.istore 5, 2) := by decide +kernel
theorem d_Mod_measure_99 : decode prog_8_method_24_code 99 = .ok (.iload 6, 2) := by decide +kernel
theorem d_Mod_measure_101 : decode prog_8_method_24_code 101 = .ok (.aload_n 0, 1) := by decide +kernel
theorem d_Mod_measure_102 : decode prog_8_method_24_code 102 = .ok (.getfield 34, 3) := by decide +kernel
theorem d_Mod_measure_105 : decode prog_8_method_24_code 105 = .ok (.sipush 341, 3) := by decide +kernel
theorem d_Mod_measure_108 : decode prog_8_method_24_code 108 = .ok (.iload_n 1, 1) := by decide +kernel
theorem d_Mod_measure_109 : decode prog_8_method_24_code 109 = .ok (.imul, 1) := by decide +kernel
theorem d_Mod_measure_110 : decode prog_8_method_24_code 110 = .ok (.iload 8, 2) := by decide +kernel
theorem d_Mod_measure_112 : decode prog_8_method_24_code 112 = .ok (.bipush 8, 2) := by decide +kernel
theorem d_Mod_measure_114 : decode prog_8_method_24_code 114 = .ok (.iconst 2, 1) := by decide +kernel
theorem d_Mod_measure_115 : decode prog_8_method_24_code 115 = .ok (.iload 7, 2) := by decide +kernel
theorem d_Mod_measure_117 : decode prog_8_method_24_code 117 = .ok (.imul, 1) := by decide +kernel
theorem d_Mod_measure_118 : decode prog_8_method_24_code 118 = .ok (.isub, 1) := by decide +kernel
theorem d_Mod_measure_119 : decode prog_8_method_24_code 119 = .ok (.ishl, 1) := by decide +kernel
theorem d_Mod_measure_120 : decode prog_8_method_24_code 120 = .ok (.iload 7, 2) := by decide +kernel
theorem d_Mod_measure_122 : decode prog_8_method_24_code 122 = .ok (.invokestatic 64, 3) := by decide +kernel
theorem d_Mod_measure_125 : decode prog_8_method_24_code 125 = .ok (.iadd, 1) := by decide +kernel
theorem d_Mod_measure_126 : decode prog_8_method_24_code 126 = .ok (.iaload, 1) := by decide +kernel
theorem d_Mod_measure_127 : decode prog_8_method_24_code 127 = .ok (.aload_n 0, 1) := by decide +kernel
theorem d_Mod_measure_128 : decode prog_8_method_24_code 128 = .ok (.getfield 20, 3) := by decide +kernel
theorem d_Mod_measure_131 : decode prog_8_method_24_code 131 = .ok (.iload_n 1, 1) := by decide +kernel
theorem d_Mod_measure_132 : decode prog_8_method_24_code 132 = .ok (.iaload, 1) := by decide +kernel
theorem d_Mod_measure_133 : decode prog_8_method_24_code 133 = .ok (.if_icmp .ne 7, 3) := by decide +kernel
theorem d_Mod_measure_136 : decode prog_8_method_24_code 136 = .ok (.iconst 1, 1) := by decide +kernel
theorem d_Mod_measure_137 : decode prog_8_method_24_code 137 = .ok (.goto 4, 3) := by decide +kernel
theorem d_Mod_measure_140 : decode prog_8_method_24_code 140 = .ok (.iconst 0, 1) := by decide +kernel
theorem d_Mod_measure_141 : decode prog_8_method_24_code 141 = .ok (.iadd, 1) := by decide +kernel
theorem d_Mod_measure_142 : decode prog_8_method_24_code 142 = .ok (.istore 6, 2) := by decide +kernel
theorem d_Mod_measure_144 : decode prog_8_method_24_code 144 = .ok (.iinc 8 1, 3) := by decide +kernel
theorem d_Mod_measure_147 : decode prog_8_method_24_code 147 = .ok (.goto (-96), 3) := by decide +kernel
theorem d_Mod_measure_150 : decode prog_8_method_24_code 150 = .ok (.iinc 7 1, 3) := by decide +kernel
theorem d_Mod_measure_153 : decode prog_8_method_24_code 153 = .ok (.goto (-111), 3) := by decide +kernel
theorem d_Mod_measure_156 : decode prog_8_method_24_code 156 = .ok (.iload_n 2, 1) := by decide +kernel
theorem d_Mod_measure_157 : decode prog_8_method_24_code 157 = .ok (.iconst 3, 1) := by decide +kernel
theorem d_Mod_measure_158 : decode prog_8_method_24_code 158 = .ok (.if_icmp .ge 28, 3) := by decide +kernel
theorem d_Mod_measure_161 : decode prog_8_method_24_code 161 = .ok (.iload_n 2, 1) := by decide +kernel
theorem d_Mod_measure_162 : decode prog_8_method_24_code 162 = .ok (.ifCond .ne 12, 3) := by decide +kernel
theorem d_Mod_measure_165 : decode prog_8_method_24_code 165 = .ok (.aload_n 0, 1) := by decide +kernel
theorem d_Mod_measure_166 : decode prog_8_method_24_code 166 = .ok (.getfield 24, 3) := by decide +kernel
theorem d_Mod_measure_169 : decode prog_8_method_24_code 169 = .ok (.iload_n 1, 1) := by decide +kernel
theorem d_Mod_measure_170 : decode prog_8_method_24_code 170 = .ok (.iaload, 1) := by decide +kernel
theorem d_Mod_measure_171 : decode prog_8_method_24_code 171 = .ok (.goto 14, 3) := by decide +kernel
theorem d_Mod_measure_174 : decode prog_8_method_24_code 174 = .ok (.iload_n 2, 1) := by decide +kernel
theorem d_Mod_measure_175 : decode prog_8_method_24_code 175 = .ok (.iconst 1, 1) := by decide +kernel
theorem d_Mod_measure_176 : decode prog_8_method_24_code 176 = .ok (.if_icmp .ne 7, 3) := by decide +kernel
theorem d_Mod_measure_179 : decode prog_8_method_24_code 179 = .ok (.iload_n 3, 1) := by decide +kernel
theorem d_Mod_measure_180 : decode prog_8_method_24_code 180 = .ok (.goto 5, 3) := by decide +kernel
theorem d_Mod_measure_183 : decode prog_8_method_24_code 183 = .ok (.iload 4, 2) := by decide +kernel
theorem d_Mod_measure_185 : decode prog_8_method_24_code 185 = .ok (.ireturn, 1) := by decide +kernel
theorem d_Mod_measure_186 : decode prog_8_method_24_code 186 = .ok (.iload_n 2, 1) := by decide +kernel
theorem d_Mod_measure_187 : decode prog_8_method_24_code 187 = .ok (.iconst 3, 1) := by decide +kernel
theorem d_Mod_measure_188 : decode prog_8_method_24_code 188 = .ok (.if_icmp .ne 8, 3) := by decide +kernel
theorem d_Mod_measure_191 : decode prog_8_method_24_code 191 = .ok (.iload 5, 2) := by decide +kernel
theorem d_Mod_measure_193 : decode prog_8_method_24_code 193 = .ok (.goto 5, 3) := by decide +kernel
theorem d_Mod_measure_196 : decode prog_8_method_24_code 196 = .ok (.iload 6, 2) := by decide +kernel
theorem d_Mod_measure_198 : decode prog_8_method_24_code 198 = .ok (.ireturn, 1) := by decide +kernel
theorem d_Mod_common_0 : decode prog_8_method_25_code 0 = .ok (.aload_n 0, 1) := by decide +kernel
theorem d_Mod_common_1 : decode prog_8_method_25_code 1 = .ok (.iconst 0, 1) := by decide +kernel
theorem d_Mod_common_2 : decode prog_8_method_25_code 2 = .ok (.putfield 52, 3) := by decide +kernel
theorem d_Mod_common_5 : decode prog_8_method_25_code 5 = .ok (.aload_n 0, 1) := by decide +kernel
theorem d_Mod_common_6 : decode prog_8_method_25_code 6 = .ok (.iload_n 1, 1) := by decide +kernel
theorem d_Mod_common_7 : decode prog_8_method_25_code 7 = .ok (.invokevirtual 79, 3) := by decide +kernel
theorem d_Mod_common_10 : decode prog_8_method_25_code 10 = .ok (.ifCond .ne 11, 3) := by decide +kernel
theorem d_Mod_common_13 : decode prog_8_method_25_code 13 = .ok (.aload_n 0, 1) := by decide +kernel
theorem d_Mod_common_14 : decode prog_8_method_25_code 14 = .ok (.iload_n 2, 1) := by decide +kernel
theorem d_Mod_common_15 : decode prog_8_method_25_code 15 = .ok (.invokevirtual 79, 3) := by decide +kernel
theorem d_Mod_common_18 : decode prog_8_method_25_code 18 = .ok (.ifCond .eq 9, 3) := by decide +kernel
theorem d_Mod_common_21 : decode prog_8_method_25_code 21 = .ok (.aload_n 0, 1) := by decide +kernel
theorem d_Mod_common_22 : decode prog_8_method_25_code 22 = .ok (.iconst 1, 1) := by decide +kernel
theorem d_Mod_common_23 : decode prog_8_method_25_code 23 = .ok (.invokevirtual 83, 3) := by decide +kernel
theorem d_Mod_common_26 : decode prog_8_method_25_code 26 = .ok (.ireturn, 1) := by decide +kernel
theorem d_Mod_common_27 : decode prog_8_method_25_code 27 = .ok (.iconst 0, 1) := by decide +kernel
theorem d_Mod_common_28 : decode prog_8_method_25_code 28 = .ok (.istore_n 3, 1) := by decide +kernel
theorem d_Mod_common_29 : decode prog_8_method_25_code 29 = .ok (.iconst 0, 1) := by decide +kernel
theorem d_Mod_common_30 : decode prog_8_method_25_code 30 = .ok (.istore 4, 2) := by decide +kernel
theorem d_Mod_common_32 : decode prog_8_method_25_code 32 = .ok (.iload 4, 2) := by decide +kernel
theorem d_Mod_common_34 : decode prog_8_method_25_code 34 = .ok (.iconst 5, 1) := by decide +kernel
theorem d_Mod_common_35 : decode prog_8_method_25_code 35 = .ok (.if_icmp .ge 107, 3) := by decide +kernel
theorem d_Mod_common_38 : decode prog_8_method_25_code 38 = .ok (.iconst 0, 1) := by decide +kernel
theorem d_Mod_common_39 : decode prog_8_method_25_code 39 = .ok (.istore 5, 2) := by decide +kernel
theorem d_Mod_common_41 : decode prog_8_method_25_code 41 = .ok (.iload 5, 2) := by decide +kernel
theorem d_Mod_common_43 : decode prog_8_method_25_code 43 = .ok (.iconst 1, 1) := by decide +kernel
theorem d_Mod_common_44 : decode prog_8_method_25_code 44 = .ok (.iconst 2, 1) := by decide +kernel
theorem d_Mod_common_45 : decode prog_8_method_25_code 45 = .ok (.iload 4, 2) := by decide +kernel
theorem d_Mod_common_47 : decode prog_8_method_25_code 47 = .ok (.imul, 1) := by decide +kernel
theorem d_Mod_common_48 : decode prog_8_method_25_code 48 = .ok (.ishl, 1) := by decide +kernel
theorem d_Mod_common_49 : decode prog_8_method_25_code 49 = .ok (.if_icmp .ge 87, 3) := by decide +kernel
theorem d_Mod_common_52 : decode prog_8_method_25_code 52 = .ok (.iload 5, 2) := by decide +kernel
theorem d_Mod_common_54 : decode prog_8_method_25_code 54 = .ok (.bipush 8, 2) := by decide +kernel
theorem d_Mod_common_56 : decode prog_8_method_25_code 56 = .ok (.iconst 2, 1) := by decide +kernel
theorem d_Mod_common_57 : decode prog_8_method_25_code 57 = .ok (.iload 4, 2) := by decide +kernel
theorem d_Mod_common_59 : decode prog_8_method_25_code 59 = .ok (.imul, 1) := by decide +kernel
theorem d_Mod_common_60 : decode prog_8_method_25_code 60 = .ok (.isub, 1) := by decide +kernel
theorem d_Mod_common_61 : decode prog_8_method_25_code 61 = .ok (.ishl, 1) := by decide +kernel
theorem d_Mod_common_62 : decode prog_8_method_25_code 62 = .ok (.iload 4, 2) := by decide +kernel
theorem d_Mod_common_64 : decode prog_8_method_25_code 64 = .ok (.invokestatic 64, 3) := by decide +kernel
theorem d_Mod_common_67 : decode prog_8_method_25_code 67 = .ok (.istore 6, 2) := by decide +kernel
theorem d_Mod_common_69 : decode prog_8_method_25_code 69 = .ok (.iload_n 3, 1) := by decide +kernel
theorem d_Mod_common_70 : decode prog_8_method_25_code 70 = .ok (.aload_n 0, 1) := by decide +kernel
theorem d_Mod_common_71 : decode prog_8_method_25_code 71 = .ok (.iload_n 1, 1) := by decide +kernel
theorem d_Mod_common_72 : decode prog_8_method_25_code 72 = .ok (.iload 4, 2) := by decide +kernel
theorem d_Mod_common_74 : decode prog_8_method_25_code 74 = .ok (.iload 5, 2) := by decide +kernel
theorem d_Mod_common_76 : decode prog_8_method_25_code 76 = .ok (.invokevirtual 101, 3) := by decide +kernel
theorem d_Mod_common_79 : decode prog_8_method_25_code 79 = .ok (.ifCond .eq 48, 3) := by decide +kernel
theorem d_Mod_common_82 : decode prog_8_method_25_code 82 = .ok (.aload_n 0, 1) := by decide +kernel
theorem d_Mod_common_83 : decode prog_8_method_25_code 83 = .ok (.iload_n 2, 1) := by decide +kernel
theorem d_Mod_common_84 : decode prog_8_method_25_code 84 = .ok (.iload 4, 2) := by decide +kernel
theorem d_Mod_common_86 : decode prog_8_method_25_code 86 = .ok (.iload 5, 2) := by decide +kernel
theorem d_Mod_common_88 : decode prog_8_method_25_code 88 = .ok (.invokevirtual 101, 3) := by decide +kernel
theorem d_Mod_common_91 : decode prog_8_method_25_code 91 = .ok (.ifCond .eq 36, 3) := by decide +kernel
theorem d_Mod_common_94 : decode prog_8_method_25_code 94 = .ok (.aload_n 0, 1) := by decide +kernel
theorem d_Mod_common_95 : decode prog_8_method_25_code 95 = .ok (.getfield 34, 3) := by decide +kernel
theorem d_Mod_common_98 : decode prog_8_method_25_code 98 = .ok (.sipush 341, 3) := by decide +kernel
theorem d_Mod_common_101 : decode prog_8_method_25_code 101 = .ok (.iload_n 1, 1) := by decide +kernel
theorem d_Mod_common_102 : decode prog_8_method_25_code 102 = .ok (.imul, 1) := by decide +kernel
theorem d_Mod_common_103 : decode prog_8_method_25_code 103 = .ok (.iload 6, 2) := by decide +kernel
theorem d_Mod_common_105 : decode prog_8_method_25_code 105 = .ok (.iadd, 1) := by decide +kernel
theorem d_Mod_common_106 : decode prog_8_method_25_code 106 = .ok (.iaload, 1) := by decide +kernel
theorem d_Mod_common_107 : decode prog_8_method_25_code 107 = .ok (.aload_n 0, 1) := by decide +kernel
theorem d_Mod_common_108 : decode prog_8_method_25_code 108 = .ok (.getfield 34, 3) := by decide +kernel
theorem d_Mod_common_111 : decode prog_8_method_25_code 111 = .ok (.sipush 341, 3) := by decide +kernel
theorem d_Mod_common_114 : decode prog_8_method_25_code 114 = .ok (.iload_n 2, 1) := by decide +kernel
theorem d_Mod_common_115 : decode prog_8_method_25_code 115 = .ok (.imul, 1) := by decide +kernel
theorem d_Mod_common_116 : decode prog_8_method_25_code 116 = .ok (.iload 6, 2) := by decide +kernel
theorem d_Mod_common_118 : decode prog_8_method_25_code 118 = .ok (.iadd, 1) := by decide +kernel
theorem d_Mod_common_119 : decode prog_8_method_25_code 119 = .ok (.iaload, 1) := by decide +kernel
theorem d_Mod_common_120 : decode prog_8_method_25_code 120 = .ok (.if_icmp .ne 7, 3) := by decide +kernel
theorem d_Mod_common_123 : decode prog_8_method_25_code 123 = .ok (.iconst 1, 1) := by decide +kernel
theorem d_Mod_common_124 : decode prog_8_method_25_code 124 = .ok (.goto 4, 3) := by decide +kernel
theorem d_Mod_common_127 : decode prog_8_method_25_code 127 = .ok (.iconst 0, 1) := by decide +kernel
theorem d_Mod_common_128 : decode prog_8_method_25_code 128 = .ok (.iadd, 1) := by decide +kernel
theorem d_Mod_common_129 : decode prog_8_method_25_code 129 = .ok (.istore_n 3, 1) := by decide +kernel
theorem d_Mod_common_130 : decode prog_8_method_25_code 130 = .ok (.iinc 5 1, 3) := by decide +kernel
theorem d_Mod_common_133 : decode prog_8_method_25_code 133 = .ok (.goto (-92), 3) := by decide +kernel
theorem d_Mod_common_136 : decode prog_8_method_25_code 136 = .ok (.iinc 4 1, 3) := by decide +kernel
theorem d_Mod_common_139 : decode prog_8_method_25_code 139 = .ok (.goto (-107), 3) := by decide +kernel
theorem d_Mod_common_142 : decode prog_8_method_25_code 142 = .ok (.iload_n 3, 1) := by decide +kernel
theorem d_Mod_common_143 : decode prog_8_method_25_code 143 = .ok (.ireturn, 1) := by decide +kernel
theorem d_Mod_generation_0 : decode prog_8_method_26_code 0 = .ok (.aload_n 0, 1) := by decide +kernel
theorem d_Mod_generation_1 : decode prog_8_method_26_code 1 = .ok (.iconst 0, 1) := by decide +kernel
theorem d_Mod_generation_2 : decode prog_8_method_26_code 2 = .ok (.putfield 52, 3) := by decide +kernel
theorem d_Mod_generation_5 : decode prog_8_method_26_code 5 = .ok (.aload_n 0, 1) := by decide +kernel
theorem d_Mod_generation_6 : decode prog_8_method_26_code 6 = .ok (.iload_n 1, 1) := by decide +kernel
theorem d_Mod_generation_7 : decode prog_8_method_26_code 7 = .ok (.invokevirtual 79, 3) := by decide +kernel
theorem d_Mod_generation_10 : decode prog_8_method_26_code 10 = .ok (.ifCond .eq 11, 3) := by decide +kernel
theorem d_Mod_generation_13 : decode prog_8_method_26_code 13 = .ok (.aload_n 0, 1) := by decide +kernel
theorem d_Mod_generation_14 : decode prog_8_method_26_code 14 = .ok (.iconst 1, 1) := by decide +kernel
theorem d_Mod_generation_15 : decode prog_8_method_26_code 15 = .ok (.invokevirtual 83, 3) := by decide +kernel
theorem d_Mod_generation_18 : decode prog_8_method_26_code 18 = .ok (.goto 9, 3) := by decide +kernel
theorem d_Mod_generation_21 : decode prog_8_method_26_code 21 = .ok (.aload_n 0, 1) := by decide +kernel
theorem d_Mod_generation_22 : decode prog_8_method_26_code 22 = .ok (.getfield 20, 3) := by decide +kernel
theorem d_Mod_generation_25 : decode prog_8_method_26_code 25 = .ok (.iload_n 1, 1) := by decide +kernel
theorem d_Mod_generation_26 : decode prog_8_method_26_code 26 = .ok (.iaload, 1) := by decide +kernel
theorem d_Mod_generation_27 : decode prog_8_method_26_code 27 = .ok (.ireturn, 1) := by decide +kernel

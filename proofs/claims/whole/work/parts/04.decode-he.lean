/-! Decode rows of the class. -/
theorem d_HE_init_0 : decode prog_1_method_1_code 0 = .ok (.aload_n 0, 1) := by decide +kernel
theorem d_HE_init_1 : decode prog_1_method_1_code 1 = .ok (.invokespecial 1, 3) := by decide +kernel
theorem d_HE_init_4 : decode prog_1_method_1_code 4 = .ok (.aload_n 0, 1) := by decide +kernel
theorem d_HE_init_5 : decode prog_1_method_1_code 5 = .ok (.new 7, 3) := by decide +kernel
theorem d_HE_init_8 : decode prog_1_method_1_code 8 = .ok (.dup, 1) := by decide +kernel
theorem d_HE_init_9 : decode prog_1_method_1_code 9 = .ok (.invokespecial 9, 3) := by decide +kernel
theorem d_HE_init_12 : decode prog_1_method_1_code 12 = .ok (.putfield 10, 3) := by decide +kernel
theorem d_HE_init_15 : decode prog_1_method_1_code 15 = .ok (.aload_n 0, 1) := by decide +kernel
theorem d_HE_init_16 : decode prog_1_method_1_code 16 = .ok (.iconst (-1), 1) := by decide +kernel
theorem d_HE_init_17 : decode prog_1_method_1_code 17 = .ok (.putfield 16, 3) := by decide +kernel
theorem d_HE_init_20 : decode prog_1_method_1_code 20 = .ok (.aload_n 0, 1) := by decide +kernel
theorem d_HE_init_21 : decode prog_1_method_1_code 21 = .ok (.new 20, 3) := by decide +kernel
theorem d_HE_init_24 : decode prog_1_method_1_code 24 = .ok (.dup, 1) := by decide +kernel
theorem d_HE_init_25 : decode prog_1_method_1_code 25 = .ok (.invokespecial 22, 3) := by decide +kernel
theorem d_HE_init_28 : decode prog_1_method_1_code 28 = .ok (.putfield 23, 3) := by decide +kernel
theorem d_HE_init_31 : decode prog_1_method_1_code 31 = .ok (.aload_n 0, 1) := by decide +kernel
theorem d_HE_init_32 : decode prog_1_method_1_code 32 = .ok (.new 27, 3) := by decide +kernel
theorem d_HE_init_35 : decode prog_1_method_1_code 35 = .ok (.dup, 1) := by decide +kernel
theorem d_HE_init_36 : decode prog_1_method_1_code 36 = .ok (.invokespecial 29, 3) := by decide +kernel
theorem d_HE_init_39 : decode prog_1_method_1_code 39 = .ok (.putfield 30, 3) := by decide +kernel
theorem d_HE_init_42 : decode prog_1_method_1_code 42 = .ok (.aload_n 0, 1) := by decide +kernel
theorem d_HE_init_43 : decode prog_1_method_1_code 43 = .ok (.iconst 3, 1) := by decide +kernel
theorem d_HE_init_44 : decode prog_1_method_1_code 44 = .ok (.anewarray 34, 3) := by decide +kernel
theorem d_HE_init_47 : decode prog_1_method_1_code 47 = .ok (.putfield 36, 3) := by decide +kernel
theorem d_HE_init_50 : decode prog_1_method_1_code 50 = .ok (.aload_n 0, 1) := by decide +kernel
theorem d_HE_init_51 : decode prog_1_method_1_code 51 = .ok (.iconst 0, 1) := by decide +kernel
theorem d_HE_init_52 : decode prog_1_method_1_code 52 = .ok (.putfield 40, 3) := by decide +kernel
theorem d_HE_init_55 : decode prog_1_method_1_code 55 = .ok (.aload_n 0, 1) := by decide +kernel
theorem d_HE_init_56 : decode prog_1_method_1_code 56 = .ok (.new 34, 3) := by decide +kernel
theorem d_HE_init_59 : decode prog_1_method_1_code 59 = .ok (.dup, 1) := by decide +kernel
theorem d_HE_init_60 : decode prog_1_method_1_code 60 = .ok (.invokespecial 43, 3) := by decide +kernel
theorem d_HE_init_63 : decode prog_1_method_1_code 63 = .ok (.putfield 44, 3) := by decide +kernel
theorem d_HE_init_66 : decode prog_1_method_1_code 66 = .ok (.aload_n 0, 1) := by decide +kernel
theorem d_HE_init_67 : decode prog_1_method_1_code 67 = .ok (.iconst 3, 1) := by decide +kernel
theorem d_HE_init_68 : decode prog_1_method_1_code 68 = .ok (.anewarray 48, 3) := by decide +kernel
theorem d_HE_init_71 : decode prog_1_method_1_code 71 = .ok (.putfield 50, 3) := by decide +kernel
theorem d_HE_init_74 : decode prog_1_method_1_code 74 = .ok (.iconst 0, 1) := by decide +kernel
theorem d_HE_init_75 : decode prog_1_method_1_code 75 = .ok (.istore_n 1, 1) := by decide +kernel
theorem d_HE_init_76 : decode prog_1_method_1_code 76 = .ok (.iload_n 1, 1) := by decide +kernel
theorem d_HE_init_77 : decode prog_1_method_1_code 77 = .ok (.iconst 3, 1) := by decide +kernel
theorem d_HE_init_78 : decode prog_1_method_1_code 78 = .ok (.if_icmp .ge 22, 3) := by decide +kernel
theorem d_HE_init_81 : decode prog_1_method_1_code 81 = .ok (.aload_n 0, 1) := by decide +kernel
theorem d_HE_init_82 : decode prog_1_method_1_code 82 = .ok (.getfield 36, 3) := by decide +kernel
theorem d_HE_init_85 : decode prog_1_method_1_code 85 = .ok (.iload_n 1, 1) := by decide +kernel
theorem d_HE_init_86 : decode prog_1_method_1_code 86 = .ok (.new 34, 3) := by decide +kernel
theorem d_HE_init_89 : decode prog_1_method_1_code 89 = .ok (.dup, 1) := by decide +kernel
theorem d_HE_init_90 : decode prog_1_method_1_code 90 = .ok (.invokespecial 43, 3) := by decide +kernel
theorem d_HE_init_93 : decode prog_1_method_1_code 93 = .ok (.aastore, 1) := by decide +kernel
theorem d_HE_init_94 : decode prog_1_method_1_code 94 = .ok (.iinc 1 1, 3) := by decide +kernel
theorem d_HE_init_97 : decode prog_1_method_1_code 97 = .ok (.goto (-21), 3) := by decide +kernel
theorem d_HE_init_100 : decode prog_1_method_1_code 100 = .ok (.iconst 0, 1) := by decide +kernel
theorem d_HE_init_101 : decode prog_1_method_1_code 101 = .ok (.istore_n 1, 1) := by decide +kernel
theorem d_HE_init_102 : decode prog_1_method_1_code 102 = .ok (.iload_n 1, 1) := by decide +kernel
theorem d_HE_init_103 : decode prog_1_method_1_code 103 = .ok (.iconst 3, 1) := by decide +kernel
theorem d_HE_init_104 : decode prog_1_method_1_code 104 = .ok (.if_icmp .ge 22, 3) := by decide +kernel
theorem d_HE_init_107 : decode prog_1_method_1_code 107 = .ok (.aload_n 0, 1) := by decide +kernel
theorem d_HE_init_108 : decode prog_1_method_1_code 108 = .ok (.getfield 50, 3) := by decide +kernel
theorem d_HE_init_111 : decode prog_1_method_1_code 111 = .ok (.iload_n 1, 1) := by decide +kernel
theorem d_HE_init_112 : decode prog_1_method_1_code 112 = .ok (.new 48, 3) := by decide +kernel
theorem d_HE_init_115 : decode prog_1_method_1_code 115 = .ok (.dup, 1) := by decide +kernel
theorem d_HE_init_116 : decode prog_1_method_1_code 116 = .ok (.invokespecial 54, 3) := by decide +kernel
theorem d_HE_init_119 : decode prog_1_method_1_code 119 = .ok (.aastore, 1) := by decide +kernel
theorem d_HE_init_120 : decode prog_1_method_1_code 120 = .ok (.iinc 1 1, 3) := by decide +kernel
theorem d_HE_init_123 : decode prog_1_method_1_code 123 = .ok (.goto (-21), 3) := by decide +kernel
theorem d_HE_init_126 : decode prog_1_method_1_code 126 = .ok (.return_, 1) := by decide +kernel
theorem d_HE_blank_0 : decode prog_1_method_2_code 0 = .ok (.aload_n 0, 1) := by decide +kernel
theorem d_HE_blank_1 : decode prog_1_method_2_code 1 = .ok (.getfield 10, 3) := by decide +kernel
theorem d_HE_blank_4 : decode prog_1_method_2_code 4 = .ok (.invokevirtual 55, 3) := by decide +kernel
theorem d_HE_blank_7 : decode prog_1_method_2_code 7 = .ok (.aload_n 0, 1) := by decide +kernel
theorem d_HE_blank_8 : decode prog_1_method_2_code 8 = .ok (.iconst (-1), 1) := by decide +kernel
theorem d_HE_blank_9 : decode prog_1_method_2_code 9 = .ok (.putfield 16, 3) := by decide +kernel
theorem d_HE_blank_12 : decode prog_1_method_2_code 12 = .ok (.return_, 1) := by decide +kernel
theorem d_HE_copy_0 : decode prog_1_method_3_code 0 = .ok (.aload_n 0, 1) := by decide +kernel
theorem d_HE_copy_1 : decode prog_1_method_3_code 1 = .ok (.getfield 23, 3) := by decide +kernel
theorem d_HE_copy_4 : decode prog_1_method_3_code 4 = .ok (.iload_n 1, 1) := by decide +kernel
theorem d_HE_copy_5 : decode prog_1_method_3_code 5 = .ok (.invokevirtual 58, 3) := by decide +kernel
theorem d_HE_copy_8 : decode prog_1_method_3_code 8 = .ok (.astore_n 2, 1) := by decide +kernel
theorem d_HE_copy_9 : decode prog_1_method_3_code 9 = .ok (.aload_n 2, 1) := by decide +kernel
theorem d_HE_copy_10 : decode prog_1_method_3_code 10 = .ok (.ifnonnull 5, 3) := by decide +kernel
theorem d_HE_copy_13 : decode prog_1_method_3_code 13 = .ok (.iconst 0, 1) := by decide +kernel
theorem d_HE_copy_14 : decode prog_1_method_3_code 14 = .ok (.ireturn, 1) := by decide +kernel
theorem d_HE_copy_15 : decode prog_1_method_3_code 15 = .ok (.aload_n 0, 1) := by decide +kernel
theorem d_HE_copy_16 : decode prog_1_method_3_code 16 = .ok (.getfield 10, 3) := by decide +kernel
theorem d_HE_copy_19 : decode prog_1_method_3_code 19 = .ok (.aload_n 2, 1) := by decide +kernel
theorem d_HE_copy_20 : decode prog_1_method_3_code 20 = .ok (.getfield 62, 3) := by decide +kernel
theorem d_HE_copy_23 : decode prog_1_method_3_code 23 = .ok (.invokevirtual 67, 3) := by decide +kernel
theorem d_HE_copy_26 : decode prog_1_method_3_code 26 = .ok (.aload_n 0, 1) := by decide +kernel
theorem d_HE_copy_27 : decode prog_1_method_3_code 27 = .ok (.iconst (-1), 1) := by decide +kernel
theorem d_HE_copy_28 : decode prog_1_method_3_code 28 = .ok (.putfield 16, 3) := by decide +kernel
theorem d_HE_copy_31 : decode prog_1_method_3_code 31 = .ok (.iconst 1, 1) := by decide +kernel
theorem d_HE_copy_32 : decode prog_1_method_3_code 32 = .ok (.ireturn, 1) := by decide +kernel
theorem d_HE_set_0 : decode prog_1_method_4_code 0 = .ok (.iload_n 1, 1) := by decide +kernel
theorem d_HE_set_1 : decode prog_1_method_4_code 1 = .ok (.ifCond .lt 8, 3) := by decide +kernel
theorem d_HE_set_4 : decode prog_1_method_4_code 4 = .ok (.iload_n 1, 1) := by decide +kernel
theorem d_HE_set_5 : decode prog_1_method_4_code 5 = .ok (.iconst 5, 1) := by decide +kernel
theorem d_HE_set_6 : decode prog_1_method_4_code 6 = .ok (.if_icmp .lt 5, 3) := by decide +kernel
theorem d_HE_set_9 : decode prog_1_method_4_code 9 = .ok (.iconst 0, 1) := by decide +kernel
theorem d_HE_set_10 : decode prog_1_method_4_code 10 = .ok (.ireturn, 1) := by decide +kernel
theorem d_HE_set_11 : decode prog_1_method_4_code 11 = .ok (.aload_n 0, 1) := by decide +kernel
theorem d_HE_set_12 : decode prog_1_method_4_code 12 = .ok (.getfield 10, 3) := by decide +kernel
theorem d_HE_set_15 : decode prog_1_method_4_code 15 = .ok (.getfield 71, 3) := by decide +kernel
theorem d_HE_set_18 : decode prog_1_method_4_code 18 = .ok (.iload_n 1, 1) := by decide +kernel
theorem d_HE_set_19 : decode prog_1_method_4_code 19 = .ok (.iload_n 2, 1) := by decide +kernel
theorem d_HE_set_20 : decode prog_1_method_4_code 20 = .ok (.iastore, 1) := by decide +kernel
theorem d_HE_set_21 : decode prog_1_method_4_code 21 = .ok (.iconst 1, 1) := by decide +kernel
theorem d_HE_set_22 : decode prog_1_method_4_code 22 = .ok (.ireturn, 1) := by decide +kernel
theorem d_HE_implement_0 : decode prog_1_method_5_code 0 = .ok (.aload_n 0, 1) := by decide +kernel
theorem d_HE_implement_1 : decode prog_1_method_5_code 1 = .ok (.getfield 10, 3) := by decide +kernel
theorem d_HE_implement_4 : decode prog_1_method_5_code 4 = .ok (.iload_n 1, 1) := by decide +kernel
theorem d_HE_implement_5 : decode prog_1_method_5_code 5 = .ok (.invokevirtual 75, 3) := by decide +kernel
theorem d_HE_implement_8 : decode prog_1_method_5_code 8 = .ok (.ireturn, 1) := by decide +kernel
theorem d_HE_field_0 : decode prog_1_method_6_code 0 = .ok (.aload_n 0, 1) := by decide +kernel
theorem d_HE_field_1 : decode prog_1_method_6_code 1 = .ok (.getfield 10, 3) := by decide +kernel
theorem d_HE_field_4 : decode prog_1_method_6_code 4 = .ok (.iload_n 1, 1) := by decide +kernel
theorem d_HE_field_5 : decode prog_1_method_6_code 5 = .ok (.iload_n 2, 1) := by decide +kernel
theorem d_HE_field_6 : decode prog_1_method_6_code 6 = .ok (.iload_n 3, 1) := by decide +kernel
theorem d_HE_field_7 : decode prog_1_method_6_code 7 = .ok (.invokevirtual 79, 3) := by decide +kernel
theorem d_HE_field_10 : decode prog_1_method_6_code 10 = .ok (.ireturn, 1) := by decide +kernel
theorem d_HE_method_0 : decode prog_1_method_7_code 0 = .ok (.aload_n 0, 1) := by decide +kernel
theorem d_HE_method_1 : decode prog_1_method_7_code 1 = .ok (.getfield 10, 3) := by decide +kernel
theorem d_HE_method_4 : decode prog_1_method_7_code 4 = .ok (.iload_n 1, 1) := by decide +kernel
theorem d_HE_method_5 : decode prog_1_method_7_code 5 = .ok (.iload_n 2, 1) := by decide +kernel
theorem d_HE_method_6 : decode prog_1_method_7_code 6 = .ok (.invokevirtual 83, 3) := by decide +kernel
theorem d_HE_method_9 : decode prog_1_method_7_code 9 = .ok (.ifCond .ne 5, 3) := by decide +kernel
theorem d_HE_method_12 : decode prog_1_method_7_code 12 = .ok (.iconst 0, 1) := by decide +kernel
theorem d_HE_method_13 : decode prog_1_method_7_code 13 = .ok (.ireturn, 1) := by decide +kernel
theorem d_HE_method_14 : decode prog_1_method_7_code 14 = .ok (.aload_n 0, 1) := by decide +kernel
theorem d_HE_method_15 : decode prog_1_method_7_code 15 = .ok (.aload_n 0, 1) := by decide +kernel
theorem d_HE_method_16 : decode prog_1_method_7_code 16 = .ok (.getfield 10, 3) := by decide +kernel
theorem d_HE_method_19 : decode prog_1_method_7_code 19 = .ok (.getfield 87, 3) := by decide +kernel
theorem d_HE_method_22 : decode prog_1_method_7_code 22 = .ok (.iconst 1, 1) := by decide +kernel
theorem d_HE_method_23 : decode prog_1_method_7_code 23 = .ok (.isub, 1) := by decide +kernel
theorem d_HE_method_24 : decode prog_1_method_7_code 24 = .ok (.putfield 16, 3) := by decide +kernel
theorem d_HE_method_27 : decode prog_1_method_7_code 27 = .ok (.iconst 1, 1) := by decide +kernel
theorem d_HE_method_28 : decode prog_1_method_7_code 28 = .ok (.ireturn, 1) := by decide +kernel
theorem d_HE_choose_0 : decode prog_1_method_8_code 0 = .ok (.iload_n 1, 1) := by decide +kernel
theorem d_HE_choose_1 : decode prog_1_method_8_code 1 = .ok (.ifCond .lt 14, 3) := by decide +kernel
theorem d_HE_choose_4 : decode prog_1_method_8_code 4 = .ok (.iload_n 1, 1) := by decide +kernel
theorem d_HE_choose_5 : decode prog_1_method_8_code 5 = .ok (.aload_n 0, 1) := by decide +kernel
theorem d_HE_choose_6 : decode prog_1_method_8_code 6 = .ok (.getfield 10, 3) := by decide +kernel
theorem d_HE_choose_9 : decode prog_1_method_8_code 9 = .ok (.getfield 87, 3) := by decide +kernel
theorem d_HE_choose_12 : decode prog_1_method_8_code 12 = .ok (.if_icmp .lt 5, 3) := by decide +kernel
theorem d_HE_choose_15 : decode prog_1_method_8_code 15 = .ok (.iconst 0, 1) := by decide +kernel
theorem d_HE_choose_16 : decode prog_1_method_8_code 16 = .ok (.ireturn, 1) := by decide +kernel
theorem d_HE_choose_17 : decode prog_1_method_8_code 17 = .ok (.aload_n 0, 1) := by decide +kernel
theorem d_HE_choose_18 : decode prog_1_method_8_code 18 = .ok (.iload_n 1, 1) := by decide +kernel
theorem d_HE_choose_19 : decode prog_1_method_8_code 19 = .ok (.putfield 16, 3) := by decide +kernel
theorem d_HE_choose_22 : decode prog_1_method_8_code 22 = .ok (.aload_n 0, 1) := by decide +kernel
theorem d_HE_choose_23 : decode prog_1_method_8_code 23 = .ok (.getfield 10, 3) := by decide +kernel
theorem d_HE_choose_26 : decode prog_1_method_8_code 26 = .ok (.getfield 90, 3) := by decide +kernel
theorem d_HE_choose_29 : decode prog_1_method_8_code 29 = .ok (.iload_n 1, 1) := by decide +kernel
theorem d_HE_choose_30 : decode prog_1_method_8_code 30 = .ok (.aaload, 1) := by decide +kernel
theorem d_HE_choose_31 : decode prog_1_method_8_code 31 = .ok (.getfield 94, 3) := by decide +kernel
theorem d_HE_choose_34 : decode prog_1_method_8_code 34 = .ok (.invokevirtual 100, 3) := by decide +kernel
theorem d_HE_choose_37 : decode prog_1_method_8_code 37 = .ok (.iconst 1, 1) := by decide +kernel
theorem d_HE_choose_38 : decode prog_1_method_8_code 38 = .ok (.ireturn, 1) := by decide +kernel
theorem d_HE_code_0 : decode prog_1_method_9_code 0 = .ok (.aload_n 0, 1) := by decide +kernel
theorem d_HE_code_1 : decode prog_1_method_9_code 1 = .ok (.getfield 16, 3) := by decide +kernel
theorem d_HE_code_4 : decode prog_1_method_9_code 4 = .ok (.iconst (-1), 1) := by decide +kernel
theorem d_HE_code_5 : decode prog_1_method_9_code 5 = .ok (.if_icmp .ne 5, 3) := by decide +kernel
theorem d_HE_code_8 : decode prog_1_method_9_code 8 = .ok (.iconst 0, 1) := by decide +kernel
theorem d_HE_code_9 : decode prog_1_method_9_code 9 = .ok (.ireturn, 1) := by decide +kernel
theorem d_HE_code_10 : decode prog_1_method_9_code 10 = .ok (.aload_n 0, 1) := by decide +kernel
theorem d_HE_code_11 : decode prog_1_method_9_code 11 = .ok (.getfield 10, 3) := by decide +kernel
theorem d_HE_code_14 : decode prog_1_method_9_code 14 = .ok (.getfield 90, 3) := by decide +kernel
theorem d_HE_code_17 : decode prog_1_method_9_code 17 = .ok (.aload_n 0, 1) := by decide +kernel
theorem d_HE_code_18 : decode prog_1_method_9_code 18 = .ok (.getfield 16, 3) := by decide +kernel
theorem d_HE_code_21 : decode prog_1_method_9_code 21 = .ok (.aaload, 1) := by decide +kernel
theorem d_HE_code_22 : decode prog_1_method_9_code 22 = .ok (.getfield 94, 3) := by decide +kernel
theorem d_HE_code_25 : decode prog_1_method_9_code 25 = .ok (.iload_n 1, 1) := by decide +kernel
theorem d_HE_code_26 : decode prog_1_method_9_code 26 = .ok (.iload_n 2, 1) := by decide +kernel
theorem d_HE_code_27 : decode prog_1_method_9_code 27 = .ok (.iload_n 3, 1) := by decide +kernel
theorem d_HE_code_28 : decode prog_1_method_9_code 28 = .ok (.invokevirtual 103, 3) := by decide +kernel
theorem d_HE_code_31 : decode prog_1_method_9_code 31 = .ok (.ireturn, 1) := by decide +kernel
theorem d_HE_load_0 : decode prog_1_method_10_code 0 = .ok (.aload_n 0, 1) := by decide +kernel
theorem d_HE_load_1 : decode prog_1_method_10_code 1 = .ok (.getfield 10, 3) := by decide +kernel
theorem d_HE_load_4 : decode prog_1_method_10_code 4 = .ok (.getfield 71, 3) := by decide +kernel
theorem d_HE_load_7 : decode prog_1_method_10_code 7 = .ok (.iconst 1, 1) := by decide +kernel
theorem d_HE_load_8 : decode prog_1_method_10_code 8 = .ok (.iaload, 1) := by decide +kernel
theorem d_HE_load_9 : decode prog_1_method_10_code 9 = .ok (.istore_n 1, 1) := by decide +kernel
theorem d_HE_load_10 : decode prog_1_method_10_code 10 = .ok (.aload_n 0, 1) := by decide +kernel
theorem d_HE_load_11 : decode prog_1_method_10_code 11 = .ok (.getfield 44, 3) := by decide +kernel
theorem d_HE_load_14 : decode prog_1_method_10_code 14 = .ok (.aload_n 0, 1) := by decide +kernel
theorem d_HE_load_15 : decode prog_1_method_10_code 15 = .ok (.getfield 10, 3) := by decide +kernel
theorem d_HE_load_18 : decode prog_1_method_10_code 18 = .ok (.iload_n 1, 1) := by decide +kernel
theorem d_HE_load_19 : decode prog_1_method_10_code 19 = .ok (.invokevirtual 106, 3) := by decide +kernel
theorem d_HE_load_22 : decode prog_1_method_10_code 22 = .ok (.aload_n 0, 1) := by decide +kernel
theorem d_HE_load_23 : decode prog_1_method_10_code 23 = .ok (.getfield 30, 3) := by decide +kernel
theorem d_HE_load_26 : decode prog_1_method_10_code 26 = .ok (.aload_n 0, 1) := by decide +kernel
theorem d_HE_load_27 : decode prog_1_method_10_code 27 = .ok (.getfield 44, 3) := by decide +kernel
theorem d_HE_load_30 : decode prog_1_method_10_code 30 = .ok (.invokevirtual 110, 3) := by decide +kernel
theorem d_HE_load_33 : decode prog_1_method_10_code 33 = .ok (.aload_n 0, 1) := by decide +kernel
theorem d_HE_load_34 : decode prog_1_method_10_code 34 = .ok (.getfield 44, 3) := by decide +kernel
theorem d_HE_load_37 : decode prog_1_method_10_code 37 = .ok (.getfield 114, 3) := by decide +kernel
theorem d_HE_load_40 : decode prog_1_method_10_code 40 = .ok (.aload_n 0, 1) := by decide +kernel
theorem d_HE_load_41 : decode prog_1_method_10_code 41 = .ok (.getfield 23, 3) := by decide +kernel
theorem d_HE_load_44 : decode prog_1_method_10_code 44 = .ok (.invokestatic 117, 3) := by decide +kernel
theorem d_HE_load_47 : decode prog_1_method_10_code 47 = .ok (.istore_n 2, 1) := by decide +kernel
theorem d_HE_load_48 : decode prog_1_method_10_code 48 = .ok (.iload_n 2, 1) := by decide +kernel
theorem d_HE_load_49 : decode prog_1_method_10_code 49 = .ok (.ifCond .eq 5, 3) := by decide +kernel
theorem d_HE_load_52 : decode prog_1_method_10_code 52 = .ok (.iload_n 2, 1) := by decide +kernel
theorem d_HE_load_53 : decode prog_1_method_10_code 53 = .ok (.ireturn, 1) := by decide +kernel
theorem d_HE_load_54 : decode prog_1_method_10_code 54 = .ok (.iload_n 1, 1) := by decide +kernel
theorem d_HE_load_55 : decode prog_1_method_10_code 55 = .ok (.invokestatic 123, 3) := by decide +kernel
theorem d_HE_load_58 : decode prog_1_method_10_code 58 = .ok (.ifCond .ne 5, 3) := by decide +kernel
theorem d_HE_load_61 : decode prog_1_method_10_code 61 = .ok (.iconst 5, 1) := by decide +kernel
theorem d_HE_load_62 : decode prog_1_method_10_code 62 = .ok (.ireturn, 1) := by decide +kernel
theorem d_HE_load_63 : decode prog_1_method_10_code 63 = .ok (.aload_n 0, 1) := by decide +kernel
theorem d_HE_load_64 : decode prog_1_method_10_code 64 = .ok (.getfield 23, 3) := by decide +kernel
theorem d_HE_load_67 : decode prog_1_method_10_code 67 = .ok (.iload_n 1, 1) := by decide +kernel
theorem d_HE_load_68 : decode prog_1_method_10_code 68 = .ok (.invokevirtual 58, 3) := by decide +kernel
theorem d_HE_load_71 : decode prog_1_method_10_code 71 = .ok (.ifnull 6, 3) := by decide +kernel
theorem d_HE_load_74 : decode prog_1_method_10_code 74 = .ok (.bipush 13, 2) := by decide +kernel
theorem d_HE_load_76 : decode prog_1_method_10_code 76 = .ok (.ireturn, 1) := by decide +kernel
theorem d_HE_load_77 : decode prog_1_method_10_code 77 = .ok (.aload_n 0, 1) := by decide +kernel
theorem d_HE_load_78 : decode prog_1_method_10_code 78 = .ok (.getfield 23, 3) := by decide +kernel
theorem d_HE_load_81 : decode prog_1_method_10_code 81 = .ok (.iload_n 1, 1) := by decide +kernel
theorem d_HE_load_82 : decode prog_1_method_10_code 82 = .ok (.aload_n 0, 1) := by decide +kernel
theorem d_HE_load_83 : decode prog_1_method_10_code 83 = .ok (.getfield 44, 3) := by decide +kernel
theorem d_HE_load_86 : decode prog_1_method_10_code 86 = .ok (.invokevirtual 126, 3) := by decide +kernel
theorem d_HE_load_89 : decode prog_1_method_10_code 89 = .ok (.iconst 0, 1) := by decide +kernel
theorem d_HE_load_90 : decode prog_1_method_10_code 90 = .ok (.ireturn, 1) := by decide +kernel
theorem d_HE_transformer_0 : decode prog_1_method_11_code 0 = .ok (.aload_n 0, 1) := by decide +kernel
theorem d_HE_transformer_1 : decode prog_1_method_11_code 1 = .ok (.getfield 30, 3) := by decide +kernel
theorem d_HE_transformer_4 : decode prog_1_method_11_code 4 = .ok (.iload_n 1, 1) := by decide +kernel
theorem d_HE_transformer_5 : decode prog_1_method_11_code 5 = .ok (.iload_n 2, 1) := by decide +kernel
theorem d_HE_transformer_6 : decode prog_1_method_11_code 6 = .ok (.iload_n 3, 1) := by decide +kernel
theorem d_HE_transformer_7 : decode prog_1_method_11_code 7 = .ok (.invokestatic 123, 3) := by decide +kernel
theorem d_HE_transformer_10 : decode prog_1_method_11_code 10 = .ok (.ifCond .eq 7, 3) := by decide +kernel
theorem d_HE_transformer_13 : decode prog_1_method_11_code 13 = .ok (.iload_n 3, 1) := by decide +kernel
theorem d_HE_transformer_14 : decode prog_1_method_11_code 14 = .ok (.goto 4, 3) := by decide +kernel
theorem d_HE_transformer_17 : decode prog_1_method_11_code 17 = .ok (.iconst (-1), 1) := by decide +kernel
theorem d_HE_transformer_18 : decode prog_1_method_11_code 18 = .ok (.iload 4, 2) := by decide +kernel
theorem d_HE_transformer_20 : decode prog_1_method_11_code 20 = .ok (.invokevirtual 129, 3) := by decide +kernel
theorem d_HE_transformer_23 : decode prog_1_method_11_code 23 = .ok (.ireturn, 1) := by decide +kernel
theorem d_HE_remove_0 : decode prog_1_method_12_code 0 = .ok (.aload_n 0, 1) := by decide +kernel
theorem d_HE_remove_1 : decode prog_1_method_12_code 1 = .ok (.getfield 30, 3) := by decide +kernel
theorem d_HE_remove_4 : decode prog_1_method_12_code 4 = .ok (.iload_n 1, 1) := by decide +kernel
theorem d_HE_remove_5 : decode prog_1_method_12_code 5 = .ok (.invokevirtual 133, 3) := by decide +kernel
theorem d_HE_remove_8 : decode prog_1_method_12_code 8 = .ok (.ireturn, 1) := by decide +kernel
theorem d_HE_queue_0 : decode prog_1_method_13_code 0 = .ok (.aload_n 0, 1) := by decide +kernel
theorem d_HE_queue_1 : decode prog_1_method_13_code 1 = .ok (.getfield 23, 3) := by decide +kernel
theorem d_HE_queue_4 : decode prog_1_method_13_code 4 = .ok (.iload_n 1, 1) := by decide +kernel
theorem d_HE_queue_5 : decode prog_1_method_13_code 5 = .ok (.invokevirtual 58, 3) := by decide +kernel
theorem d_HE_queue_8 : decode prog_1_method_13_code 8 = .ok (.ifnull 19, 3) := by decide +kernel
theorem d_HE_queue_11 : decode prog_1_method_13_code 11 = .ok (.aload_n 0, 1) := by decide +kernel
theorem d_HE_queue_12 : decode prog_1_method_13_code 12 = .ok (.getfield 40, 3) := by decide +kernel
theorem d_HE_queue_15 : decode prog_1_method_13_code 15 = .ok (.iconst 3, 1) := by decide +kernel
theorem d_HE_queue_16 : decode prog_1_method_13_code 16 = .ok (.if_icmp .ge 11, 3) := by decide +kernel
theorem d_HE_queue_19 : decode prog_1_method_13_code 19 = .ok (.aload_n 0, 1) := by decide +kernel
theorem d_HE_queue_20 : decode prog_1_method_13_code 20 = .ok (.iload_n 1, 1) := by decide +kernel
theorem d_HE_queue_21 : decode prog_1_method_13_code 21 = .ok (.invokevirtual 136, 3) := by decide +kernel
theorem d_HE_queue_24 : decode prog_1_method_13_code 24 = .ok (.ifCond .eq 5, 3) := by decide +kernel
theorem d_HE_queue_27 : decode prog_1_method_13_code 27 = .ok (.iconst 0, 1) := by decide +kernel
theorem d_HE_queue_28 : decode prog_1_method_13_code 28 = .ok (.ireturn, 1) := by decide +kernel
theorem d_HE_queue_29 : decode prog_1_method_13_code 29 = .ok (.aload_n 0, 1) := by decide +kernel
theorem d_HE_queue_30 : decode prog_1_method_13_code 30 = .ok (.getfield 36, 3) := by decide +kernel
theorem d_HE_queue_33 : decode prog_1_method_13_code 33 = .ok (.aload_n 0, 1) := by decide +kernel
theorem d_HE_queue_34 : decode prog_1_method_13_code 34 = .ok (.getfield 40, 3) := by decide +kernel
theorem d_HE_queue_37 : decode prog_1_method_13_code 37 = .ok (.aaload, 1) := by decide +kernel
theorem d_HE_queue_38 : decode prog_1_method_13_code 38 = .ok (.aload_n 0, 1) := by decide +kernel
theorem d_HE_queue_39 : decode prog_1_method_13_code 39 = .ok (.getfield 10, 3) := by decide +kernel
theorem d_HE_queue_42 : decode prog_1_method_13_code 42 = .ok (.iload_n 1, 1) := by decide +kernel
theorem d_HE_queue_43 : decode prog_1_method_13_code 43 = .ok (.invokevirtual 106, 3) := by decide +kernel
theorem d_HE_queue_46 : decode prog_1_method_13_code 46 = .ok (.aload_n 0, 1) := by decide +kernel
theorem d_HE_queue_47 : decode prog_1_method_13_code 47 = .ok (.dup, 1) := by decide +kernel
theorem d_HE_queue_48 : decode prog_1_method_13_code 48 = .ok (.getfield 40, 3) := by decide +kernel
theorem d_HE_queue_51 : decode prog_1_method_13_code 51 = .ok (.iconst 1, 1) := by decide +kernel
theorem d_HE_queue_52 : decode prog_1_method_13_code 52 = .ok (.iadd, 1) := by decide +kernel
theorem d_HE_queue_53 : decode prog_1_method_13_code 53 = .ok (.putfield 40, 3) := by decide +kernel
theorem d_HE_queue_56 : decode prog_1_method_13_code 56 = .ok (.iconst 1, 1) := by decide +kernel
theorem d_HE_queue_57 : decode prog_1_method_13_code 57 = .ok (.ireturn, 1) := by decide +kernel
theorem d_HE_swap_0 : decode prog_1_method_14_code 0 = .ok (.aload_n 0, 1) := by decide +kernel
theorem d_HE_swap_1 : decode prog_1_method_14_code 1 = .ok (.invokevirtual 139, 3) := by decide +kernel
theorem d_HE_swap_4 : decode prog_1_method_14_code 4 = .ok (.istore_n 1, 1) := by decide +kernel
theorem d_HE_swap_5 : decode prog_1_method_14_code 5 = .ok (.iload_n 1, 1) := by decide +kernel
theorem d_HE_swap_6 : decode prog_1_method_14_code 6 = .ok (.ifCond .ne 7, 3) := by decide +kernel
theorem d_HE_swap_9 : decode prog_1_method_14_code 9 = .ok (.aload_n 0, 1) := by decide +kernel
theorem d_HE_swap_10 : decode prog_1_method_14_code 10 = .ok (.invokevirtual 143, 3) := by decide +kernel
theorem d_HE_swap_13 : decode prog_1_method_14_code 13 = .ok (.aload_n 0, 1) := by decide +kernel
theorem d_HE_swap_14 : decode prog_1_method_14_code 14 = .ok (.iconst 0, 1) := by decide +kernel
theorem d_HE_swap_15 : decode prog_1_method_14_code 15 = .ok (.putfield 40, 3) := by decide +kernel
theorem d_HE_swap_18 : decode prog_1_method_14_code 18 = .ok (.iload_n 1, 1) := by decide +kernel
theorem d_HE_swap_19 : decode prog_1_method_14_code 19 = .ok (.ireturn, 1) := by decide +kernel
theorem d_HE_repeat_0 : decode prog_1_method_15_code 0 = .ok (.aload_n 0, 1) := by decide +kernel
theorem d_HE_repeat_1 : decode prog_1_method_15_code 1 = .ok (.getfield 23, 3) := by decide +kernel
theorem d_HE_repeat_4 : decode prog_1_method_15_code 4 = .ok (.iload_n 1, 1) := by decide +kernel
theorem d_HE_repeat_5 : decode prog_1_method_15_code 5 = .ok (.invokevirtual 58, 3) := by decide +kernel
theorem d_HE_repeat_8 : decode prog_1_method_15_code 8 = .ok (.astore_n 2, 1) := by decide +kernel
theorem d_HE_repeat_9 : decode prog_1_method_15_code 9 = .ok (.aload_n 2, 1) := by decide +kernel
theorem d_HE_repeat_10 : decode prog_1_method_15_code 10 = .ok (.ifnonnull 5, 3) := by decide +kernel
theorem d_HE_repeat_13 : decode prog_1_method_15_code 13 = .ok (.iconst (-1), 1) := by decide +kernel
theorem d_HE_repeat_14 : decode prog_1_method_15_code 14 = .ok (.ireturn, 1) := by decide +kernel
theorem d_HE_repeat_15 : decode prog_1_method_15_code 15 = .ok (.aload_n 0, 1) := by decide +kernel
theorem d_HE_repeat_16 : decode prog_1_method_15_code 16 = .ok (.getfield 44, 3) := by decide +kernel
theorem d_HE_repeat_19 : decode prog_1_method_15_code 19 = .ok (.aload_n 2, 1) := by decide +kernel
theorem d_HE_repeat_20 : decode prog_1_method_15_code 20 = .ok (.getfield 146, 3) := by decide +kernel
theorem d_HE_repeat_23 : decode prog_1_method_15_code 23 = .ok (.iload_n 1, 1) := by decide +kernel
theorem d_HE_repeat_24 : decode prog_1_method_15_code 24 = .ok (.invokevirtual 106, 3) := by decide +kernel
theorem d_HE_repeat_27 : decode prog_1_method_15_code 27 = .ok (.aload_n 0, 1) := by decide +kernel
theorem d_HE_repeat_28 : decode prog_1_method_15_code 28 = .ok (.getfield 30, 3) := by decide +kernel
theorem d_HE_repeat_31 : decode prog_1_method_15_code 31 = .ok (.aload_n 0, 1) := by decide +kernel
theorem d_HE_repeat_32 : decode prog_1_method_15_code 32 = .ok (.getfield 44, 3) := by decide +kernel
theorem d_HE_repeat_35 : decode prog_1_method_15_code 35 = .ok (.getfield 114, 3) := by decide +kernel
theorem d_HE_repeat_38 : decode prog_1_method_15_code 38 = .ok (.iload_n 1, 1) := by decide +kernel
theorem d_HE_repeat_39 : decode prog_1_method_15_code 39 = .ok (.iconst 1, 1) := by decide +kernel
theorem d_HE_repeat_40 : decode prog_1_method_15_code 40 = .ok (.invokevirtual 149, 3) := by decide +kernel
theorem d_HE_repeat_43 : decode prog_1_method_15_code 43 = .ok (.aload_n 0, 1) := by decide +kernel
theorem d_HE_repeat_44 : decode prog_1_method_15_code 44 = .ok (.getfield 44, 3) := by decide +kernel
theorem d_HE_repeat_47 : decode prog_1_method_15_code 47 = .ok (.getfield 114, 3) := by decide +kernel
theorem d_HE_repeat_50 : decode prog_1_method_15_code 50 = .ok (.iload_n 1, 1) := by decide +kernel
theorem d_HE_repeat_51 : decode prog_1_method_15_code 51 = .ok (.aload_n 2, 1) := by decide +kernel
theorem d_HE_repeat_52 : decode prog_1_method_15_code 52 = .ok (.getfield 62, 3) := by decide +kernel
theorem d_HE_repeat_55 : decode prog_1_method_15_code 55 = .ok (.aload_n 0, 1) := by decide +kernel
theorem d_HE_repeat_56 : decode prog_1_method_15_code 56 = .ok (.getfield 23, 3) := by decide +kernel
theorem d_HE_repeat_59 : decode prog_1_method_15_code 59 = .ok (.invokestatic 153, 3) := by decide +kernel
theorem d_HE_repeat_62 : decode prog_1_method_15_code 62 = .ok (.istore_n 3, 1) := by decide +kernel
theorem d_HE_repeat_63 : decode prog_1_method_15_code 63 = .ok (.iload_n 3, 1) := by decide +kernel
theorem d_HE_repeat_64 : decode prog_1_method_15_code 64 = .ok (.ifCond .ne 14, 3) := by decide +kernel
theorem d_HE_repeat_67 : decode prog_1_method_15_code 67 = .ok (.aload_n 2, 1) := by decide +kernel
theorem d_HE_repeat_68 : decode prog_1_method_15_code 68 = .ok (.aload_n 0, 1) := by decide +kernel
theorem d_HE_repeat_69 : decode prog_1_method_15_code 69 = .ok (.getfield 44, 3) := by decide +kernel
theorem d_HE_repeat_72 : decode prog_1_method_15_code 72 = .ok (.getfield 114, 3) := by decide +kernel
theorem d_HE_repeat_75 : decode prog_1_method_15_code 75 = .ok (.invokevirtual 157, 3) := by decide +kernel
theorem d_HE_repeat_78 : decode prog_1_method_15_code 78 = .ok (.iload_n 3, 1) := by decide +kernel
theorem d_HE_repeat_79 : decode prog_1_method_15_code 79 = .ok (.ireturn, 1) := by decide +kernel
theorem d_HE_start_0 : decode prog_1_method_16_code 0 = .ok (.iload_n 1, 1) := by decide +kernel
theorem d_HE_start_1 : decode prog_1_method_16_code 1 = .ok (.invokestatic 160, 3) := by decide +kernel
theorem d_HE_start_4 : decode prog_1_method_16_code 4 = .ok (.ifCond .eq 15, 3) := by decide +kernel
theorem d_HE_start_7 : decode prog_1_method_16_code 7 = .ok (.aload_n 0, 1) := by decide +kernel
theorem d_HE_start_8 : decode prog_1_method_16_code 8 = .ok (.getfield 50, 3) := by decide +kernel
theorem d_HE_start_11 : decode prog_1_method_16_code 11 = .ok (.iload_n 1, 1) := by decide +kernel
theorem d_HE_start_12 : decode prog_1_method_16_code 12 = .ok (.aaload, 1) := by decide +kernel
theorem d_HE_start_13 : decode prog_1_method_16_code 13 = .ok (.getfield 163, 3) := by decide +kernel
theorem d_HE_start_16 : decode prog_1_method_16_code 16 = .ok (.ifCond .eq 5, 3) := by decide +kernel
theorem d_HE_start_19 : decode prog_1_method_16_code 19 = .ok (.iconst 0, 1) := by decide +kernel
theorem d_HE_start_20 : decode prog_1_method_16_code 20 = .ok (.ireturn, 1) := by decide +kernel
theorem d_HE_start_21 : decode prog_1_method_16_code 21 = .ok (.aload_n 0, 1) := by decide +kernel
theorem d_HE_start_22 : decode prog_1_method_16_code 22 = .ok (.getfield 50, 3) := by decide +kernel
theorem d_HE_start_25 : decode prog_1_method_16_code 25 = .ok (.iload_n 1, 1) := by decide +kernel
theorem d_HE_start_26 : decode prog_1_method_16_code 26 = .ok (.aaload, 1) := by decide +kernel
theorem d_HE_start_27 : decode prog_1_method_16_code 27 = .ok (.iload_n 2, 1) := by decide +kernel
theorem d_HE_start_28 : decode prog_1_method_16_code 28 = .ok (.iload_n 3, 1) := by decide +kernel
theorem d_HE_start_29 : decode prog_1_method_16_code 29 = .ok (.aload_n 0, 1) := by decide +kernel
theorem d_HE_start_30 : decode prog_1_method_16_code 30 = .ok (.getfield 23, 3) := by decide +kernel
theorem d_HE_start_33 : decode prog_1_method_16_code 33 = .ok (.invokevirtual 166, 3) := by decide +kernel
theorem d_HE_start_36 : decode prog_1_method_16_code 36 = .ok (.ireturn, 1) := by decide +kernel
theorem d_HE_step_0 : decode prog_1_method_17_code 0 = .ok (.iload_n 1, 1) := by decide +kernel
theorem d_HE_step_1 : decode prog_1_method_17_code 1 = .ok (.invokestatic 160, 3) := by decide +kernel
theorem d_HE_step_4 : decode prog_1_method_17_code 4 = .ok (.ifCond .eq 13, 3) := by decide +kernel
theorem d_HE_step_7 : decode prog_1_method_17_code 7 = .ok (.iload_n 2, 1) := by decide +kernel
theorem d_HE_step_8 : decode prog_1_method_17_code 8 = .ok (.ifCond .lt 9, 3) := by decide +kernel
theorem d_HE_step_11 : decode prog_1_method_17_code 11 = .ok (.iload_n 2, 1) := by decide +kernel
theorem d_HE_step_12 : decode prog_1_method_17_code 12 = .ok (.bipush 100, 2) := by decide +kernel
theorem d_HE_step_14 : decode prog_1_method_17_code 14 = .ok (.if_icmp .le 5, 3) := by decide +kernel
theorem d_HE_step_17 : decode prog_1_method_17_code 17 = .ok (.iconst (-1), 1) := by decide +kernel
theorem d_HE_step_18 : decode prog_1_method_17_code 18 = .ok (.ireturn, 1) := by decide +kernel
theorem d_HE_step_19 : decode prog_1_method_17_code 19 = .ok (.iconst 0, 1) := by decide +kernel
theorem d_HE_step_20 : decode prog_1_method_17_code 20 = .ok (.istore_n 3, 1) := by decide +kernel
theorem d_HE_step_21 : decode prog_1_method_17_code 21 = .ok (.iload_n 3, 1) := by decide +kernel
theorem d_HE_step_22 : decode prog_1_method_17_code 22 = .ok (.iload_n 2, 1) := by decide +kernel
theorem d_HE_step_23 : decode prog_1_method_17_code 23 = .ok (.if_icmp .ge 34, 3) := by decide +kernel
theorem d_HE_step_26 : decode prog_1_method_17_code 26 = .ok (.aload_n 0, 1) := by decide +kernel
theorem d_HE_step_27 : decode prog_1_method_17_code 27 = .ok (.getfield 50, 3) := by decide +kernel
theorem d_HE_step_30 : decode prog_1_method_17_code 30 = .ok (.iload_n 1, 1) := by decide +kernel
theorem d_HE_step_31 : decode prog_1_method_17_code 31 = .ok (.aaload, 1) := by decide +kernel
theorem d_HE_step_32 : decode prog_1_method_17_code 32 = .ok (.getfield 163, 3) := by decide +kernel
theorem d_HE_step_35 : decode prog_1_method_17_code 35 = .ok (.ifCond .eq 22, 3) := by decide +kernel
theorem d_HE_step_38 : decode prog_1_method_17_code 38 = .ok (.aload_n 0, 1) := by decide +kernel
theorem d_HE_step_39 : decode prog_1_method_17_code 39 = .ok (.getfield 50, 3) := by decide +kernel
theorem d_HE_step_42 : decode prog_1_method_17_code 42 = .ok (.iload_n 1, 1) := by decide +kernel
theorem d_HE_step_43 : decode prog_1_method_17_code 43 = .ok (.aaload, 1) := by decide +kernel
theorem d_HE_step_44 : decode prog_1_method_17_code 44 = .ok (.aload_n 0, 1) := by decide +kernel
theorem d_HE_step_45 : decode prog_1_method_17_code 45 = .ok (.getfield 23, 3) := by decide +kernel
theorem d_HE_step_48 : decode prog_1_method_17_code 48 = .ok (.invokevirtual 170, 3) := by decide +kernel
theorem d_HE_step_51 : decode prog_1_method_17_code 51 = .ok (.iinc 3 1, 3) := by decide +kernel
theorem d_HE_step_54 : decode prog_1_method_17_code 54 = .ok (.goto (-33), 3) := by decide +kernel
theorem d_HE_step_57 : decode prog_1_method_17_code 57 = .ok (.iload_n 3, 1) := by decide +kernel
theorem d_HE_step_58 : decode prog_1_method_17_code 58 = .ok (.ireturn, 1) := by decide +kernel
theorem d_HE_frame_0 : decode prog_1_method_18_code 0 = .ok (.aload_n 0, 1) := by decide +kernel
theorem d_HE_frame_1 : decode prog_1_method_18_code 1 = .ok (.iload_n 1, 1) := by decide +kernel
theorem d_HE_frame_2 : decode prog_1_method_18_code 2 = .ok (.iload_n 2, 1) := by decide +kernel
theorem d_HE_frame_3 : decode prog_1_method_18_code 3 = .ok (.invokevirtual 174, 3) := by decide +kernel
theorem d_HE_frame_6 : decode prog_1_method_18_code 6 = .ok (.astore_n 3, 1) := by decide +kernel
theorem d_HE_frame_7 : decode prog_1_method_18_code 7 = .ok (.aload_n 3, 1) := by decide +kernel
theorem d_HE_frame_8 : decode prog_1_method_18_code 8 = .ok (.ifnonnull 7, 3) := by decide +kernel
theorem d_HE_frame_11 : decode prog_1_method_18_code 11 = .ok (.iconst (-1), 1) := by decide +kernel
theorem d_HE_frame_12 : decode prog_1_method_18_code 12 = .ok (.goto 15, 3) := by decide +kernel
theorem d_HE_frame_15 : decode prog_1_method_18_code 15 = .ok (.bipush 8, 2) := by decide +kernel
theorem d_HE_frame_17 : decode prog_1_method_18_code 17 = .ok (.aload_n 3, 1) := by decide +kernel
theorem d_HE_frame_18 : decode prog_1_method_18_code 18 = .ok (.getfield 178, 3) := by decide +kernel
theorem d_HE_frame_21 : decode prog_1_method_18_code 21 = .ok (.imul, 1) := by decide +kernel
theorem d_HE_frame_22 : decode prog_1_method_18_code 22 = .ok (.aload_n 3, 1) := by decide +kernel
theorem d_HE_frame_23 : decode prog_1_method_18_code 23 = .ok (.getfield 183, 3) := by decide +kernel
theorem d_HE_frame_26 : decode prog_1_method_18_code 26 = .ok (.iadd, 1) := by decide +kernel
theorem d_HE_frame_27 : decode prog_1_method_18_code 27 = .ok (.ireturn, 1) := by decide +kernel
theorem d_HE_result_0 : decode prog_1_method_19_code 0 = .ok (.iload_n 1, 1) := by decide +kernel
theorem d_HE_result_1 : decode prog_1_method_19_code 1 = .ok (.invokestatic 160, 3) := by decide +kernel
theorem d_HE_result_4 : decode prog_1_method_19_code 4 = .ok (.ifCond .eq 15, 3) := by decide +kernel
theorem d_HE_result_7 : decode prog_1_method_19_code 7 = .ok (.aload_n 0, 1) := by decide +kernel
theorem d_HE_result_8 : decode prog_1_method_19_code 8 = .ok (.getfield 50, 3) := by decide +kernel
theorem d_HE_result_11 : decode prog_1_method_19_code 11 = .ok (.iload_n 1, 1) := by decide +kernel
theorem d_HE_result_12 : decode prog_1_method_19_code 12 = .ok (.aaload, 1) := by decide +kernel
theorem d_HE_result_13 : decode prog_1_method_19_code 13 = .ok (.getfield 186, 3) := by decide +kernel
theorem d_HE_result_16 : decode prog_1_method_19_code 16 = .ok (.goto 4, 3) := by decide +kernel
theorem d_HE_result_19 : decode prog_1_method_19_code 19 = .ok (.iconst 0, 1) := by decide +kernel
theorem d_HE_result_20 : decode prog_1_method_19_code 20 = .ok (.ireturn, 1) := by decide +kernel
theorem d_HE_edition_0 : decode prog_1_method_20_code 0 = .ok (.aload_n 0, 1) := by decide +kernel
theorem d_HE_edition_1 : decode prog_1_method_20_code 1 = .ok (.getfield 23, 3) := by decide +kernel
theorem d_HE_edition_4 : decode prog_1_method_20_code 4 = .ok (.iload_n 1, 1) := by decide +kernel
theorem d_HE_edition_5 : decode prog_1_method_20_code 5 = .ok (.invokevirtual 58, 3) := by decide +kernel
theorem d_HE_edition_8 : decode prog_1_method_20_code 8 = .ok (.astore_n 2, 1) := by decide +kernel
theorem d_HE_edition_9 : decode prog_1_method_20_code 9 = .ok (.aload_n 2, 1) := by decide +kernel
theorem d_HE_edition_10 : decode prog_1_method_20_code 10 = .ok (.ifnonnull 7, 3) := by decide +kernel
theorem d_HE_edition_13 : decode prog_1_method_20_code 13 = .ok (.iconst 0, 1) := by decide +kernel
theorem d_HE_edition_14 : decode prog_1_method_20_code 14 = .ok (.goto 7, 3) := by decide +kernel
theorem d_HE_edition_17 : decode prog_1_method_20_code 17 = .ok (.aload_n 2, 1) := by decide +kernel
theorem d_HE_edition_18 : decode prog_1_method_20_code 18 = .ok (.getfield 189, 3) := by decide +kernel
theorem d_HE_edition_21 : decode prog_1_method_20_code 21 = .ok (.ireturn, 1) := by decide +kernel
theorem d_HE_kept_0 : decode prog_1_method_21_code 0 = .ok (.aload_n 0, 1) := by decide +kernel
theorem d_HE_kept_1 : decode prog_1_method_21_code 1 = .ok (.getfield 23, 3) := by decide +kernel
theorem d_HE_kept_4 : decode prog_1_method_21_code 4 = .ok (.iload_n 1, 1) := by decide +kernel
theorem d_HE_kept_5 : decode prog_1_method_21_code 5 = .ok (.invokevirtual 58, 3) := by decide +kernel
theorem d_HE_kept_8 : decode prog_1_method_21_code 8 = .ok (.astore_n 2, 1) := by decide +kernel
theorem d_HE_kept_9 : decode prog_1_method_21_code 9 = .ok (.aload_n 2, 1) := by decide +kernel
theorem d_HE_kept_10 : decode prog_1_method_21_code 10 = .ok (.ifnonnull 5, 3) := by decide +kernel
theorem d_HE_kept_13 : decode prog_1_method_21_code 13 = .ok (.iconst 0, 1) := by decide +kernel
theorem d_HE_kept_14 : decode prog_1_method_21_code 14 = .ok (.ireturn, 1) := by decide +kernel
theorem d_HE_kept_15 : decode prog_1_method_21_code 15 = .ok (.iconst 1, 1) := by decide +kernel
theorem d_HE_kept_16 : decode prog_1_method_21_code 16 = .ok (.istore_n 3, 1) := by decide +kernel
theorem d_HE_kept_17 : decode prog_1_method_21_code 17 = .ok (.iconst 0, 1) := by decide +kernel
theorem d_HE_kept_18 : decode prog_1_method_21_code 18 = .ok (.istore 4, 2) := by decide +kernel
theorem d_HE_kept_20 : decode prog_1_method_21_code 20 = .ok (.iload 4, 2) := by decide +kernel
theorem d_HE_kept_22 : decode prog_1_method_21_code 22 = .ok (.iconst 3, 1) := by decide +kernel
theorem d_HE_kept_23 : decode prog_1_method_21_code 23 = .ok (.if_icmp .ge 76, 3) := by decide +kernel
theorem d_HE_kept_26 : decode prog_1_method_21_code 26 = .ok (.iconst 0, 1) := by decide +kernel
theorem d_HE_kept_27 : decode prog_1_method_21_code 27 = .ok (.istore 5, 2) := by decide +kernel
theorem d_HE_kept_29 : decode prog_1_method_21_code 29 = .ok (.iload 5, 2) := by decide +kernel
theorem d_HE_kept_31 : decode prog_1_method_21_code 31 = .ok (.iconst 5, 1) := by decide +kernel
theorem d_HE_kept_32 : decode prog_1_method_21_code 32 = .ok (.if_icmp .ge 61, 3) := by decide +kernel
theorem d_HE_kept_35 : decode prog_1_method_21_code 35 = .ok (.aload_n 0, 1) := by decide +kernel
theorem d_HE_kept_36 : decode prog_1_method_21_code 36 = .ok (.iload 4, 2) := by decide +kernel
theorem d_HE_kept_38 : decode prog_1_method_21_code 38 = .ok (.iload 5, 2) := by decide +kernel
theorem d_HE_kept_40 : decode prog_1_method_21_code 40 = .ok (.invokevirtual 174, 3) := by decide +kernel
theorem d_HE_kept_43 : decode prog_1_method_21_code 43 = .ok (.astore 6, 2) := by decide +kernel
theorem d_HE_kept_45 : decode prog_1_method_21_code 45 = .ok (.aload 6, 2) := by decide +kernel
theorem d_HE_kept_47 : decode prog_1_method_21_code 47 = .ok (.ifnull 40, 3) := by decide +kernel
theorem d_HE_kept_50 : decode prog_1_method_21_code 50 = .ok (.aload 6, 2) := by decide +kernel
theorem d_HE_kept_52 : decode prog_1_method_21_code 52 = .ok (.getfield 183, 3) := by decide +kernel
theorem d_HE_kept_55 : decode prog_1_method_21_code 55 = .ok (.iload_n 1, 1) := by decide +kernel
theorem d_HE_kept_56 : decode prog_1_method_21_code 56 = .ok (.if_icmp .ne 31, 3) := by decide +kernel
theorem d_HE_kept_59 : decode prog_1_method_21_code 59 = .ok (.aload 6, 2) := by decide +kernel
theorem d_HE_kept_61 : decode prog_1_method_21_code 61 = .ok (.getfield 178, 3) := by decide +kernel
theorem d_HE_kept_64 : decode prog_1_method_21_code 64 = .ok (.aload_n 2, 1) := by decide +kernel
theorem d_HE_kept_65 : decode prog_1_method_21_code 65 = .ok (.getfield 189, 3) := by decide +kernel
theorem d_HE_kept_68 : decode prog_1_method_21_code 68 = .ok (.if_icmp .eq 19, 3) := by decide +kernel
theorem d_HE_kept_71 : decode prog_1_method_21_code 71 = .ok (.aload_n 0, 1) := by decide +kernel
theorem d_HE_kept_72 : decode prog_1_method_21_code 72 = .ok (.iload 4, 2) := by decide +kernel
theorem d_HE_kept_74 : decode prog_1_method_21_code 74 = .ok (.iload 5, 2) := by decide +kernel
theorem d_HE_kept_76 : decode prog_1_method_21_code 76 = .ok (.aload 6, 2) := by decide +kernel
theorem d_HE_kept_78 : decode prog_1_method_21_code 78 = .ok (.invokevirtual 190, 3) := by decide +kernel
theorem d_HE_kept_81 : decode prog_1_method_21_code 81 = .ok (.ifCond .eq 6, 3) := by decide +kernel
theorem d_HE_kept_84 : decode prog_1_method_21_code 84 = .ok (.iinc 3 1, 3) := by decide +kernel
theorem d_HE_kept_87 : decode prog_1_method_21_code 87 = .ok (.iinc 5 1, 3) := by decide +kernel
theorem d_HE_kept_90 : decode prog_1_method_21_code 90 = .ok (.goto (-61), 3) := by decide +kernel
theorem d_HE_kept_93 : decode prog_1_method_21_code 93 = .ok (.iinc 4 1, 3) := by decide +kernel
theorem d_HE_kept_96 : decode prog_1_method_21_code 96 = .ok (.goto (-76), 3) := by decide +kernel
theorem d_HE_kept_99 : decode prog_1_method_21_code 99 = .ok (.iload_n 3, 1) := by decide +kernel
theorem d_HE_kept_100 : decode prog_1_method_21_code 100 = .ok (.ireturn, 1) := by decide +kernel
theorem d_HE_isClass_0 : decode prog_1_method_22_code 0 = .ok (.iload_n 0, 1) := by decide +kernel
theorem d_HE_isClass_1 : decode prog_1_method_22_code 1 = .ok (.ifCond .lt 13, 3) := by decide +kernel
theorem d_HE_isClass_4 : decode prog_1_method_22_code 4 = .ok (.iload_n 0, 1) := by decide +kernel
theorem d_HE_isClass_5 : decode prog_1_method_22_code 5 = .ok (.bipush 6, 2) := by decide +kernel
theorem d_HE_isClass_7 : decode prog_1_method_22_code 7 = .ok (.if_icmp .ge 7, 3) := by decide +kernel
theorem d_HE_isClass_10 : decode prog_1_method_22_code 10 = .ok (.iconst 1, 1) := by decide +kernel
theorem d_HE_isClass_11 : decode prog_1_method_22_code 11 = .ok (.goto 4, 3) := by decide +kernel
theorem d_HE_isClass_14 : decode prog_1_method_22_code 14 = .ok (.iconst 0, 1) := by decide +kernel
theorem d_HE_isClass_15 : decode prog_1_method_22_code 15 = .ok (.ireturn, 1) := by decide +kernel
theorem d_HE_isThread_0 : decode prog_1_method_23_code 0 = .ok (.iload_n 0, 1) := by decide +kernel
theorem d_HE_isThread_1 : decode prog_1_method_23_code 1 = .ok (.ifCond .lt 12, 3) := by decide +kernel
theorem d_HE_isThread_4 : decode prog_1_method_23_code 4 = .ok (.iload_n 0, 1) := by decide +kernel
theorem d_HE_isThread_5 : decode prog_1_method_23_code 5 = .ok (.iconst 3, 1) := by decide +kernel
theorem d_HE_isThread_6 : decode prog_1_method_23_code 6 = .ok (.if_icmp .ge 7, 3) := by decide +kernel
theorem d_HE_isThread_9 : decode prog_1_method_23_code 9 = .ok (.iconst 1, 1) := by decide +kernel
theorem d_HE_isThread_10 : decode prog_1_method_23_code 10 = .ok (.goto 4, 3) := by decide +kernel
theorem d_HE_isThread_13 : decode prog_1_method_23_code 13 = .ok (.iconst 0, 1) := by decide +kernel
theorem d_HE_isThread_14 : decode prog_1_method_23_code 14 = .ok (.ireturn, 1) := by decide +kernel
theorem d_HE_isInBatch_0 : decode prog_1_method_24_code 0 = .ok (.iconst 0, 1) := by decide +kernel
theorem d_HE_isInBatch_1 : decode prog_1_method_24_code 1 = .ok (.istore_n 2, 1) := by decide +kernel
theorem d_HE_isInBatch_2 : decode prog_1_method_24_code 2 = .ok (.iload_n 2, 1) := by decide +kernel
theorem d_HE_isInBatch_3 : decode prog_1_method_24_code 3 = .ok (.aload_n 0, 1) := by decide +kernel
theorem d_HE_isInBatch_4 : decode prog_1_method_24_code 4 = .ok (.getfield 40, 3) := by decide +kernel
theorem d_HE_isInBatch_7 : decode prog_1_method_24_code 7 = .ok (.if_icmp .ge 24, 3) := by decide +kernel
theorem d_HE_isInBatch_10 : decode prog_1_method_24_code 10 = .ok (.aload_n 0, 1) := by decide +kernel
theorem d_HE_isInBatch_11 : decode prog_1_method_24_code 11 = .ok (.getfield 36, 3) := by decide +kernel
theorem d_HE_isInBatch_14 : decode prog_1_method_24_code 14 = .ok (.iload_n 2, 1) := by decide +kernel
theorem d_HE_isInBatch_15 : decode prog_1_method_24_code 15 = .ok (.aaload, 1) := by decide +kernel
theorem d_HE_isInBatch_16 : decode prog_1_method_24_code 16 = .ok (.getfield 194, 3) := by decide +kernel
theorem d_HE_isInBatch_19 : decode prog_1_method_24_code 19 = .ok (.iload_n 1, 1) := by decide +kernel
theorem d_HE_isInBatch_20 : decode prog_1_method_24_code 20 = .ok (.if_icmp .ne 5, 3) := by decide +kernel
theorem d_HE_isInBatch_23 : decode prog_1_method_24_code 23 = .ok (.iconst 1, 1) := by decide +kernel
theorem d_HE_isInBatch_24 : decode prog_1_method_24_code 24 = .ok (.ireturn, 1) := by decide +kernel
theorem d_HE_isInBatch_25 : decode prog_1_method_24_code 25 = .ok (.iinc 2 1, 3) := by decide +kernel
theorem d_HE_isInBatch_28 : decode prog_1_method_24_code 28 = .ok (.goto (-26), 3) := by decide +kernel
theorem d_HE_isInBatch_31 : decode prog_1_method_24_code 31 = .ok (.iconst 0, 1) := by decide +kernel
theorem d_HE_isInBatch_32 : decode prog_1_method_24_code 32 = .ok (.ireturn, 1) := by decide +kernel
theorem d_HE_firstBrokenOfBatch_0 : decode prog_1_method_25_code 0 = .ok (.iconst 0, 1) := by decide +kernel
theorem d_HE_firstBrokenOfBatch_1 : decode prog_1_method_25_code 1 = .ok (.istore_n 1, 1) := by decide +kernel
theorem d_HE_firstBrokenOfBatch_2 : decode prog_1_method_25_code 2 = .ok (.iload_n 1, 1) := by decide +kernel
theorem d_HE_firstBrokenOfBatch_3 : decode prog_1_method_25_code 3 = .ok (.aload_n 0, 1) := by decide +kernel
theorem d_HE_firstBrokenOfBatch_4 : decode prog_1_method_25_code 4 = .ok (.getfield 40, 3) := by decide +kernel
theorem d_HE_firstBrokenOfBatch_7 : decode prog_1_method_25_code 7 = .ok (.if_icmp .ge 77, 3) := by decide +kernel
theorem d_HE_firstBrokenOfBatch_10 : decode prog_1_method_25_code 10 = .ok (.aload_n 0, 1) := by decide +kernel
theorem d_HE_firstBrokenOfBatch_11 : decode prog_1_method_25_code 11 = .ok (.getfield 36, 3) := by decide +kernel
theorem d_HE_firstBrokenOfBatch_14 : decode prog_1_method_25_code 14 = .ok (.iload_n 1, 1) := by decide +kernel
theorem d_HE_firstBrokenOfBatch_15 : decode prog_1_method_25_code 15 = .ok (.aaload, 1) := by decide +kernel
theorem d_HE_firstBrokenOfBatch_16 : decode prog_1_method_25_code 16 = .ok (.astore_n 2, 1) := by decide +kernel
theorem d_HE_firstBrokenOfBatch_17 : decode prog_1_method_25_code 17 = .ok (.aload_n 0, 1) := by decide +kernel
theorem d_HE_firstBrokenOfBatch_18 : decode prog_1_method_25_code 18 = .ok (.getfield 23, 3) := by decide +kernel
theorem d_HE_firstBrokenOfBatch_21 : decode prog_1_method_25_code 21 = .ok (.aload_n 2, 1) := by decide +kernel
theorem d_HE_firstBrokenOfBatch_22 : decode prog_1_method_25_code 22 = .ok (.getfield 194, 3) := by decide +kernel
theorem d_HE_firstBrokenOfBatch_25 : decode prog_1_method_25_code 25 = .ok (.invokevirtual 58, 3) := by decide +kernel
theorem d_HE_firstBrokenOfBatch_28 : decode prog_1_method_25_code 28 = .ok (.astore_n 3, 1) := by decide +kernel
theorem d_HE_firstBrokenOfBatch_29 : decode prog_1_method_25_code 29 = .ok (.aload_n 3, 1) := by decide +kernel
theorem d_HE_firstBrokenOfBatch_30 : decode prog_1_method_25_code 30 = .ok (.ifnull 48, 3) := by decide +kernel
theorem d_HE_firstBrokenOfBatch_33 : decode prog_1_method_25_code 33 = .ok (.aload_n 0, 1) := by decide +kernel
theorem d_HE_firstBrokenOfBatch_34 : decode prog_1_method_25_code 34 = .ok (.getfield 30, 3) := by decide +kernel
theorem d_HE_firstBrokenOfBatch_37 : decode prog_1_method_25_code 37 = .ok (.aload_n 2, 1) := by decide +kernel
theorem d_HE_firstBrokenOfBatch_38 : decode prog_1_method_25_code 38 = .ok (.invokevirtual 110, 3) := by decide +kernel
theorem d_HE_firstBrokenOfBatch_41 : decode prog_1_method_25_code 41 = .ok (.aload_n 2, 1) := by decide +kernel
theorem d_HE_firstBrokenOfBatch_42 : decode prog_1_method_25_code 42 = .ok (.getfield 114, 3) := by decide +kernel
theorem d_HE_firstBrokenOfBatch_45 : decode prog_1_method_25_code 45 = .ok (.aload_n 2, 1) := by decide +kernel
theorem d_HE_firstBrokenOfBatch_46 : decode prog_1_method_25_code 46 = .ok (.getfield 194, 3) := by decide +kernel
theorem d_HE_firstBrokenOfBatch_49 : decode prog_1_method_25_code 49 = .ok (.aload_n 3, 1) := by decide +kernel
theorem d_HE_firstBrokenOfBatch_50 : decode prog_1_method_25_code 50 = .ok (.getfield 62, 3) := by decide +kernel
theorem d_HE_firstBrokenOfBatch_53 : decode prog_1_method_25_code 53 = .ok (.aload_n 0, 1) := by decide +kernel
theorem d_HE_firstBrokenOfBatch_54 : decode prog_1_method_25_code 54 = .ok (.getfield 23, 3) := by decide +kernel
theorem d_HE_firstBrokenOfBatch_57 : decode prog_1_method_25_code 57 = .ok (.invokestatic 153, 3) := by decide +kernel
theorem d_HE_firstBrokenOfBatch_60 : decode prog_1_method_25_code 60 = .ok (.istore 4, 2) := by decide +kernel
theorem d_HE_firstBrokenOfBatch_62 : decode prog_1_method_25_code 62 = .ok (.iload 4, 2) := by decide +kernel
theorem d_HE_firstBrokenOfBatch_64 : decode prog_1_method_25_code 64 = .ok (.ifCond .eq 14, 3) := by decide +kernel
theorem d_HE_firstBrokenOfBatch_67 : decode prog_1_method_25_code 67 = .ok (.bipush 16, 2) := by decide +kernel
theorem d_HE_firstBrokenOfBatch_69 : decode prog_1_method_25_code 69 = .ok (.aload_n 2, 1) := by decide +kernel
theorem d_HE_firstBrokenOfBatch_70 : decode prog_1_method_25_code 70 = .ok (.getfield 194, 3) := by decide +kernel
theorem d_HE_firstBrokenOfBatch_73 : decode prog_1_method_25_code 73 = .ok (.imul, 1) := by decide +kernel
theorem d_HE_firstBrokenOfBatch_74 : decode prog_1_method_25_code 74 = .ok (.iload 4, 2) := by decide +kernel
theorem d_HE_firstBrokenOfBatch_76 : decode prog_1_method_25_code 76 = .ok (.iadd, 1) := by decide +kernel
theorem d_HE_firstBrokenOfBatch_77 : decode prog_1_method_25_code 77 = .ok (.ireturn, 1) := by decide +kernel
theorem d_HE_firstBrokenOfBatch_78 : decode prog_1_method_25_code 78 = .ok (.iinc 1 1, 3) := by decide +kernel
theorem d_HE_firstBrokenOfBatch_81 : decode prog_1_method_25_code 81 = .ok (.goto (-79), 3) := by decide +kernel
theorem d_HE_firstBrokenOfBatch_84 : decode prog_1_method_25_code 84 = .ok (.iconst 0, 1) := by decide +kernel
theorem d_HE_firstBrokenOfBatch_85 : decode prog_1_method_25_code 85 = .ok (.ireturn, 1) := by decide +kernel
theorem d_HE_installBatch_0 : decode prog_1_method_26_code 0 = .ok (.iconst 0, 1) := by decide +kernel
theorem d_HE_installBatch_1 : decode prog_1_method_26_code 1 = .ok (.istore_n 1, 1) := by decide +kernel
theorem d_HE_installBatch_2 : decode prog_1_method_26_code 2 = .ok (.iload_n 1, 1) := by decide +kernel
theorem d_HE_installBatch_3 : decode prog_1_method_26_code 3 = .ok (.aload_n 0, 1) := by decide +kernel
theorem d_HE_installBatch_4 : decode prog_1_method_26_code 4 = .ok (.getfield 40, 3) := by decide +kernel
theorem d_HE_installBatch_7 : decode prog_1_method_26_code 7 = .ok (.if_icmp .ge 59, 3) := by decide +kernel
theorem d_HE_installBatch_10 : decode prog_1_method_26_code 10 = .ok (.aload_n 0, 1) := by decide +kernel
theorem d_HE_installBatch_11 : decode prog_1_method_26_code 11 = .ok (.getfield 23, 3) := by decide +kernel
theorem d_HE_installBatch_14 : decode prog_1_method_26_code 14 = .ok (.aload_n 0, 1) := by decide +kernel
theorem d_HE_installBatch_15 : decode prog_1_method_26_code 15 = .ok (.getfield 36, 3) := by decide +kernel
theorem d_HE_installBatch_18 : decode prog_1_method_26_code 18 = .ok (.iload_n 1, 1) := by decide +kernel
theorem d_HE_installBatch_19 : decode prog_1_method_26_code 19 = .ok (.aaload, 1) := by decide +kernel
theorem d_HE_installBatch_20 : decode prog_1_method_26_code 20 = .ok (.getfield 194, 3) := by decide +kernel
theorem d_HE_installBatch_23 : decode prog_1_method_26_code 23 = .ok (.invokevirtual 58, 3) := by decide +kernel
theorem d_HE_installBatch_26 : decode prog_1_method_26_code 26 = .ok (.astore_n 2, 1) := by decide +kernel
theorem d_HE_installBatch_27 : decode prog_1_method_26_code 27 = .ok (.aload_n 2, 1) := by decide +kernel
theorem d_HE_installBatch_28 : decode prog_1_method_26_code 28 = .ok (.ifnull 32, 3) := by decide +kernel
theorem d_HE_installBatch_31 : decode prog_1_method_26_code 31 = .ok (.aload_n 2, 1) := by decide +kernel
theorem d_HE_installBatch_32 : decode prog_1_method_26_code 32 = .ok (.aload_n 0, 1) := by decide +kernel
theorem d_HE_installBatch_33 : decode prog_1_method_26_code 33 = .ok (.getfield 36, 3) := by decide +kernel
theorem d_HE_installBatch_36 : decode prog_1_method_26_code 36 = .ok (.iload_n 1, 1) := by decide +kernel
theorem d_HE_installBatch_37 : decode prog_1_method_26_code 37 = .ok (.aaload, 1) := by decide +kernel
theorem d_HE_installBatch_38 : decode prog_1_method_26_code 38 = .ok (.getfield 114, 3) := by decide +kernel
theorem d_HE_installBatch_41 : decode prog_1_method_26_code 41 = .ok (.invokevirtual 157, 3) := by decide +kernel
theorem d_HE_installBatch_44 : decode prog_1_method_26_code 44 = .ok (.aload_n 2, 1) := by decide +kernel
theorem d_HE_installBatch_45 : decode prog_1_method_26_code 45 = .ok (.getfield 146, 3) := by decide +kernel
theorem d_HE_installBatch_48 : decode prog_1_method_26_code 48 = .ok (.aload_n 0, 1) := by decide +kernel
theorem d_HE_installBatch_49 : decode prog_1_method_26_code 49 = .ok (.getfield 36, 3) := by decide +kernel
theorem d_HE_installBatch_52 : decode prog_1_method_26_code 52 = .ok (.iload_n 1, 1) := by decide +kernel
theorem d_HE_installBatch_53 : decode prog_1_method_26_code 53 = .ok (.aaload, 1) := by decide +kernel
theorem d_HE_installBatch_54 : decode prog_1_method_26_code 54 = .ok (.getfield 197, 3) := by decide +kernel
theorem d_HE_installBatch_57 : decode prog_1_method_26_code 57 = .ok (.invokevirtual 67, 3) := by decide +kernel
theorem d_HE_installBatch_60 : decode prog_1_method_26_code 60 = .ok (.iinc 1 1, 3) := by decide +kernel
theorem d_HE_installBatch_63 : decode prog_1_method_26_code 63 = .ok (.goto (-61), 3) := by decide +kernel
theorem d_HE_installBatch_66 : decode prog_1_method_26_code 66 = .ok (.return_, 1) := by decide +kernel
theorem d_HE_findFrame_0 : decode prog_1_method_27_code 0 = .ok (.iload_n 1, 1) := by decide +kernel
theorem d_HE_findFrame_1 : decode prog_1_method_27_code 1 = .ok (.invokestatic 160, 3) := by decide +kernel
theorem d_HE_findFrame_4 : decode prog_1_method_27_code 4 = .ok (.ifCond .eq 20, 3) := by decide +kernel
theorem d_HE_findFrame_7 : decode prog_1_method_27_code 7 = .ok (.iload_n 2, 1) := by decide +kernel
theorem d_HE_findFrame_8 : decode prog_1_method_27_code 8 = .ok (.ifCond .lt 16, 3) := by decide +kernel
theorem d_HE_findFrame_11 : decode prog_1_method_27_code 11 = .ok (.iload_n 2, 1) := by decide +kernel
theorem d_HE_findFrame_12 : decode prog_1_method_27_code 12 = .ok (.aload_n 0, 1) := by decide +kernel
theorem d_HE_findFrame_13 : decode prog_1_method_27_code 13 = .ok (.getfield 50, 3) := by decide +kernel
theorem d_HE_findFrame_16 : decode prog_1_method_27_code 16 = .ok (.iload_n 1, 1) := by decide +kernel
theorem d_HE_findFrame_17 : decode prog_1_method_27_code 17 = .ok (.aaload, 1) := by decide +kernel
theorem d_HE_findFrame_18 : decode prog_1_method_27_code 18 = .ok (.getfield 163, 3) := by decide +kernel
theorem d_HE_findFrame_21 : decode prog_1_method_27_code 21 = .ok (.if_icmp .lt 5, 3) := by decide +kernel
theorem d_HE_findFrame_24 : decode prog_1_method_27_code 24 = .ok (.aconst_null, 1) := by decide +kernel
theorem d_HE_findFrame_25 : decode prog_1_method_27_code 25 = .ok (.areturn, 1) := by decide +kernel
theorem d_HE_findFrame_26 : decode prog_1_method_27_code 26 = .ok (.aload_n 0, 1) := by decide +kernel
theorem d_HE_findFrame_27 : decode prog_1_method_27_code 27 = .ok (.getfield 50, 3) := by decide +kernel
theorem d_HE_findFrame_30 : decode prog_1_method_27_code 30 = .ok (.iload_n 1, 1) := by decide +kernel
theorem d_HE_findFrame_31 : decode prog_1_method_27_code 31 = .ok (.aaload, 1) := by decide +kernel
theorem d_HE_findFrame_32 : decode prog_1_method_27_code 32 = .ok (.getfield 198, 3) := by decide +kernel
theorem d_HE_findFrame_35 : decode prog_1_method_27_code 35 = .ok (.iload_n 2, 1) := by decide +kernel
theorem d_HE_findFrame_36 : decode prog_1_method_27_code 36 = .ok (.aaload, 1) := by decide +kernel
theorem d_HE_findFrame_37 : decode prog_1_method_27_code 37 = .ok (.areturn, 1) := by decide +kernel
theorem d_HE_isFirstOfItsEdition_0 : decode prog_1_method_28_code 0 = .ok (.iconst 0, 1) := by decide +kernel
theorem d_HE_isFirstOfItsEdition_1 : decode prog_1_method_28_code 1 = .ok (.istore 4, 2) := by decide +kernel
theorem d_HE_isFirstOfItsEdition_3 : decode prog_1_method_28_code 3 = .ok (.iload 4, 2) := by decide +kernel
theorem d_HE_isFirstOfItsEdition_5 : decode prog_1_method_28_code 5 = .ok (.iload_n 1, 1) := by decide +kernel
theorem d_HE_isFirstOfItsEdition_6 : decode prog_1_method_28_code 6 = .ok (.iconst 5, 1) := by decide +kernel
theorem d_HE_isFirstOfItsEdition_7 : decode prog_1_method_28_code 7 = .ok (.imul, 1) := by decide +kernel
theorem d_HE_isFirstOfItsEdition_8 : decode prog_1_method_28_code 8 = .ok (.iload_n 2, 1) := by decide +kernel
theorem d_HE_isFirstOfItsEdition_9 : decode prog_1_method_28_code 9 = .ok (.iadd, 1) := by decide +kernel
theorem d_HE_isFirstOfItsEdition_10 : decode prog_1_method_28_code 10 = .ok (.if_icmp .ge 54, 3) := by decide +kernel
theorem d_HE_isFirstOfItsEdition_13 : decode prog_1_method_28_code 13 = .ok (.aload_n 0, 1) := by decide +kernel
theorem d_HE_isFirstOfItsEdition_14 : decode prog_1_method_28_code 14 = .ok (.iload 4, 2) := by decide +kernel
theorem d_HE_isFirstOfItsEdition_16 : decode prog_1_method_28_code 16 = .ok (.iconst 5, 1) := by decide +kernel
theorem d_HE_isFirstOfItsEdition_17 : decode prog_1_method_28_code 17 = .ok (.idiv, 1) := by decide +kernel
theorem d_HE_isFirstOfItsEdition_18 : decode prog_1_method_28_code 18 = .ok (.iload 4, 2) := by decide +kernel
theorem d_HE_isFirstOfItsEdition_20 : decode prog_1_method_28_code 20 = .ok (.iconst 5, 1) := by decide +kernel
theorem d_HE_isFirstOfItsEdition_21 : decode prog_1_method_28_code 21 = .ok (.irem, 1) := by decide +kernel
theorem d_HE_isFirstOfItsEdition_22 : decode prog_1_method_28_code 22 = .ok (.invokevirtual 174, 3) := by decide +kernel
theorem d_HE_isFirstOfItsEdition_25 : decode prog_1_method_28_code 25 = .ok (.astore 5, 2) := by decide +kernel
theorem d_HE_isFirstOfItsEdition_27 : decode prog_1_method_28_code 27 = .ok (.aload 5, 2) := by decide +kernel
theorem d_HE_isFirstOfItsEdition_29 : decode prog_1_method_28_code 29 = .ok (.ifnull 29, 3) := by decide +kernel
theorem d_HE_isFirstOfItsEdition_32 : decode prog_1_method_28_code 32 = .ok (.aload 5, 2) := by decide +kernel
theorem d_HE_isFirstOfItsEdition_34 : decode prog_1_method_28_code 34 = .ok (.getfield 183, 3) := by decide +kernel
theorem d_HE_isFirstOfItsEdition_37 : decode prog_1_method_28_code 37 = .ok (.aload_n 3, 1) := by decide +kernel
theorem d_HE_isFirstOfItsEdition_38 : decode prog_1_method_28_code 38 = .ok (.getfield 183, 3) := by decide +kernel
theorem d_HE_isFirstOfItsEdition_41 : decode prog_1_method_28_code 41 = .ok (.if_icmp .ne 17, 3) := by decide +kernel
theorem d_HE_isFirstOfItsEdition_44 : decode prog_1_method_28_code 44 = .ok (.aload 5, 2) := by decide +kernel
theorem d_HE_isFirstOfItsEdition_46 : decode prog_1_method_28_code 46 = .ok (.getfield 178, 3) := by decide +kernel
theorem d_HE_isFirstOfItsEdition_49 : decode prog_1_method_28_code 49 = .ok (.aload_n 3, 1) := by decide +kernel
theorem d_HE_isFirstOfItsEdition_50 : decode prog_1_method_28_code 50 = .ok (.getfield 178, 3) := by decide +kernel
theorem d_HE_isFirstOfItsEdition_53 : decode prog_1_method_28_code 53 = .ok (.if_icmp .ne 5, 3) := by decide +kernel
theorem d_HE_isFirstOfItsEdition_56 : decode prog_1_method_28_code 56 = .ok (.iconst 0, 1) := by decide +kernel
theorem d_HE_isFirstOfItsEdition_57 : decode prog_1_method_28_code 57 = .ok (.ireturn, 1) := by decide +kernel
theorem d_HE_isFirstOfItsEdition_58 : decode prog_1_method_28_code 58 = .ok (.iinc 4 1, 3) := by decide +kernel
theorem d_HE_isFirstOfItsEdition_61 : decode prog_1_method_28_code 61 = .ok (.goto (-58), 3) := by decide +kernel
theorem d_HE_isFirstOfItsEdition_64 : decode prog_1_method_28_code 64 = .ok (.iconst 1, 1) := by decide +kernel
theorem d_HE_isFirstOfItsEdition_65 : decode prog_1_method_28_code 65 = .ok (.ireturn, 1) := by decide +kernel
theorem d_Cl_init_0 : decode prog_2_method_1_code 0 = .ok (.aload_n 0, 1) := by decide +kernel
theorem d_Cl_init_1 : decode prog_2_method_1_code 1 = .ok (.invokespecial 3, 3) := by decide +kernel
theorem d_Cl_init_4 : decode prog_2_method_1_code 4 = .ok (.aload_n 0, 1) := by decide +kernel
theorem d_Cl_init_5 : decode prog_2_method_1_code 5 = .ok (.iconst 5, 1) := by decide +kernel
theorem d_Cl_init_6 : decode prog_2_method_1_code 6 = .ok (.anewarray 9, 3) := by decide +kernel
theorem d_Cl_init_9 : decode prog_2_method_1_code 9 = .ok (.putfield 11, 3) := by decide +kernel
theorem d_Cl_init_12 : decode prog_2_method_1_code 12 = .ok (.aload_n 0, 1) := by decide +kernel
theorem d_Cl_init_13 : decode prog_2_method_1_code 13 = .ok (.iconst 0, 1) := by decide +kernel
theorem d_Cl_init_14 : decode prog_2_method_1_code 14 = .ok (.putfield 17, 3) := by decide +kernel
theorem d_Cl_init_17 : decode prog_2_method_1_code 17 = .ok (.aload_n 0, 1) := by decide +kernel
theorem d_Cl_init_18 : decode prog_2_method_1_code 18 = .ok (.iconst 0, 1) := by decide +kernel
theorem d_Cl_init_19 : decode prog_2_method_1_code 19 = .ok (.putfield 21, 3) := by decide +kernel
theorem d_Cl_init_22 : decode prog_2_method_1_code 22 = .ok (.iconst 0, 1) := by decide +kernel
theorem d_Cl_init_23 : decode prog_2_method_1_code 23 = .ok (.istore_n 1, 1) := by decide +kernel
theorem d_Cl_init_24 : decode prog_2_method_1_code 24 = .ok (.iload_n 1, 1) := by decide +kernel
theorem d_Cl_init_25 : decode prog_2_method_1_code 25 = .ok (.iconst 5, 1) := by decide +kernel
theorem d_Cl_init_26 : decode prog_2_method_1_code 26 = .ok (.if_icmp .ge 22, 3) := by decide +kernel
theorem d_Cl_init_29 : decode prog_2_method_1_code 29 = .ok (.aload_n 0, 1) := by decide +kernel
theorem d_Cl_init_30 : decode prog_2_method_1_code 30 = .ok (.getfield 11, 3) := by decide +kernel
theorem d_Cl_init_33 : decode prog_2_method_1_code 33 = .ok (.iload_n 1, 1) := by decide +kernel
theorem d_Cl_init_34 : decode prog_2_method_1_code 34 = .ok (.new 9, 3) := by decide +kernel
theorem d_Cl_init_37 : decode prog_2_method_1_code 37 = .ok (.dup, 1) := by decide +kernel
theorem d_Cl_init_38 : decode prog_2_method_1_code 38 = .ok (.invokespecial 24, 3) := by decide +kernel
theorem d_Cl_init_41 : decode prog_2_method_1_code 41 = .ok (.aastore, 1) := by decide +kernel
theorem d_Cl_init_42 : decode prog_2_method_1_code 42 = .ok (.iinc 1 1, 3) := by decide +kernel
theorem d_Cl_init_45 : decode prog_2_method_1_code 45 = .ok (.goto (-21), 3) := by decide +kernel
theorem d_Cl_init_48 : decode prog_2_method_1_code 48 = .ok (.return_, 1) := by decide +kernel
theorem d_Cl_enter_0 : decode prog_2_method_2_code 0 = .ok (.aload_n 3, 1) := by decide +kernel
theorem d_Cl_enter_1 : decode prog_2_method_2_code 1 = .ok (.iload_n 1, 1) := by decide +kernel
theorem d_Cl_enter_2 : decode prog_2_method_2_code 2 = .ok (.invokevirtual 25, 3) := by decide +kernel
theorem d_Cl_enter_5 : decode prog_2_method_2_code 5 = .ok (.astore 4, 2) := by decide +kernel
theorem d_Cl_enter_7 : decode prog_2_method_2_code 7 = .ok (.aload_n 0, 1) := by decide +kernel
theorem d_Cl_enter_8 : decode prog_2_method_2_code 8 = .ok (.getfield 17, 3) := by decide +kernel
theorem d_Cl_enter_11 : decode prog_2_method_2_code 11 = .ok (.iconst 5, 1) := by decide +kernel
theorem d_Cl_enter_12 : decode prog_2_method_2_code 12 = .ok (.if_icmp .ge 8, 3) := by decide +kernel
theorem d_Cl_enter_15 : decode prog_2_method_2_code 15 = .ok (.aload 4, 2) := by decide +kernel
theorem d_Cl_enter_17 : decode prog_2_method_2_code 17 = .ok (.ifnonnull 5, 3) := by decide +kernel
theorem d_Cl_enter_20 : decode prog_2_method_2_code 20 = .ok (.iconst 0, 1) := by decide +kernel
theorem d_Cl_enter_21 : decode prog_2_method_2_code 21 = .ok (.ireturn, 1) := by decide +kernel
theorem d_Cl_enter_22 : decode prog_2_method_2_code 22 = .ok (.aload 4, 2) := by decide +kernel
theorem d_Cl_enter_24 : decode prog_2_method_2_code 24 = .ok (.getfield 31, 3) := by decide +kernel
theorem d_Cl_enter_27 : decode prog_2_method_2_code 27 = .ok (.iload_n 2, 1) := by decide +kernel
theorem d_Cl_enter_28 : decode prog_2_method_2_code 28 = .ok (.invokevirtual 37, 3) := by decide +kernel
theorem d_Cl_enter_31 : decode prog_2_method_2_code 31 = .ok (.astore 5, 2) := by decide +kernel
theorem d_Cl_enter_33 : decode prog_2_method_2_code 33 = .ok (.aload 5, 2) := by decide +kernel
theorem d_Cl_enter_35 : decode prog_2_method_2_code 35 = .ok (.ifnonnull 5, 3) := by decide +kernel
theorem d_Cl_enter_38 : decode prog_2_method_2_code 38 = .ok (.iconst 0, 1) := by decide +kernel
theorem d_Cl_enter_39 : decode prog_2_method_2_code 39 = .ok (.ireturn, 1) := by decide +kernel
theorem d_Cl_enter_40 : decode prog_2_method_2_code 40 = .ok (.aload_n 0, 1) := by decide +kernel
theorem d_Cl_enter_41 : decode prog_2_method_2_code 41 = .ok (.getfield 11, 3) := by decide +kernel
theorem d_Cl_enter_44 : decode prog_2_method_2_code 44 = .ok (.aload_n 0, 1) := by decide +kernel
theorem d_Cl_enter_45 : decode prog_2_method_2_code 45 = .ok (.getfield 17, 3) := by decide +kernel
theorem d_Cl_enter_48 : decode prog_2_method_2_code 48 = .ok (.aaload, 1) := by decide +kernel
theorem d_Cl_enter_49 : decode prog_2_method_2_code 49 = .ok (.iload_n 1, 1) := by decide +kernel
theorem d_Cl_enter_50 : decode prog_2_method_2_code 50 = .ok (.aload 4, 2) := by decide +kernel
theorem d_Cl_enter_52 : decode prog_2_method_2_code 52 = .ok (.getfield 43, 3) := by decide +kernel
theorem d_Cl_enter_55 : decode prog_2_method_2_code 55 = .ok (.aload 5, 2) := by decide +kernel
theorem d_Cl_enter_57 : decode prog_2_method_2_code 57 = .ok (.getfield 46, 3) := by decide +kernel
theorem d_Cl_enter_60 : decode prog_2_method_2_code 60 = .ok (.invokevirtual 52, 3) := by decide +kernel
theorem d_Cl_enter_63 : decode prog_2_method_2_code 63 = .ok (.aload_n 0, 1) := by decide +kernel
theorem d_Cl_enter_64 : decode prog_2_method_2_code 64 = .ok (.dup, 1) := by decide +kernel
theorem d_Cl_enter_65 : decode prog_2_method_2_code 65 = .ok (.getfield 17, 3) := by decide +kernel
theorem d_Cl_enter_68 : decode prog_2_method_2_code 68 = .ok (.iconst 1, 1) := by decide +kernel
theorem d_Cl_enter_69 : decode prog_2_method_2_code 69 = .ok (.iadd, 1) := by decide +kernel
theorem d_Cl_enter_70 : decode prog_2_method_2_code 70 = .ok (.putfield 17, 3) := by decide +kernel
theorem d_Cl_enter_73 : decode prog_2_method_2_code 73 = .ok (.iconst 1, 1) := by decide +kernel
theorem d_Cl_enter_74 : decode prog_2_method_2_code 74 = .ok (.ireturn, 1) := by decide +kernel
theorem d_Cl_advance_0 : decode prog_2_method_3_code 0 = .ok (.aload_n 0, 1) := by decide +kernel
theorem d_Cl_advance_1 : decode prog_2_method_3_code 1 = .ok (.getfield 17, 3) := by decide +kernel
theorem d_Cl_advance_4 : decode prog_2_method_3_code 4 = .ok (.ifCond .ne 4, 3) := by decide +kernel
theorem d_Cl_advance_7 : decode prog_2_method_3_code 7 = .ok (.return_, 1) := by decide +kernel
theorem d_Cl_advance_8 : decode prog_2_method_3_code 8 = .ok (.aload_n 0, 1) := by decide +kernel
theorem d_Cl_advance_9 : decode prog_2_method_3_code 9 = .ok (.getfield 11, 3) := by decide +kernel
theorem d_Cl_advance_12 : decode prog_2_method_3_code 12 = .ok (.aload_n 0, 1) := by decide +kernel
theorem d_Cl_advance_13 : decode prog_2_method_3_code 13 = .ok (.getfield 17, 3) := by decide +kernel
theorem d_Cl_advance_16 : decode prog_2_method_3_code 16 = .ok (.iconst 1, 1) := by decide +kernel
theorem d_Cl_advance_17 : decode prog_2_method_3_code 17 = .ok (.isub, 1) := by decide +kernel
theorem d_Cl_advance_18 : decode prog_2_method_3_code 18 = .ok (.aaload, 1) := by decide +kernel
theorem d_Cl_advance_19 : decode prog_2_method_3_code 19 = .ok (.astore_n 2, 1) := by decide +kernel
theorem d_Cl_advance_20 : decode prog_2_method_3_code 20 = .ok (.aload_n 2, 1) := by decide +kernel
theorem d_Cl_advance_21 : decode prog_2_method_3_code 21 = .ok (.getfield 56, 3) := by decide +kernel
theorem d_Cl_advance_24 : decode prog_2_method_3_code 24 = .ok (.aload_n 2, 1) := by decide +kernel
theorem d_Cl_advance_25 : decode prog_2_method_3_code 25 = .ok (.getfield 59, 3) := by decide +kernel
theorem d_Cl_advance_28 : decode prog_2_method_3_code 28 = .ok (.getfield 60, 3) := by decide +kernel
theorem d_Cl_advance_31 : decode prog_2_method_3_code 31 = .ok (.if_icmp .lt 12, 3) := by decide +kernel
theorem d_Cl_advance_34 : decode prog_2_method_3_code 34 = .ok (.aload_n 0, 1) := by decide +kernel
theorem d_Cl_advance_35 : decode prog_2_method_3_code 35 = .ok (.aload_n 2, 1) := by decide +kernel
theorem d_Cl_advance_36 : decode prog_2_method_3_code 36 = .ok (.getfield 65, 3) := by decide +kernel
theorem d_Cl_advance_39 : decode prog_2_method_3_code 39 = .ok (.invokevirtual 68, 3) := by decide +kernel
theorem d_Cl_advance_42 : decode prog_2_method_3_code 42 = .ok (.return_, 1) := by decide +kernel
theorem d_Cl_advance_43 : decode prog_2_method_3_code 43 = .ok (.aload_n 2, 1) := by decide +kernel
theorem d_Cl_advance_44 : decode prog_2_method_3_code 44 = .ok (.getfield 56, 3) := by decide +kernel
theorem d_Cl_advance_47 : decode prog_2_method_3_code 47 = .ok (.istore_n 3, 1) := by decide +kernel
theorem d_Cl_advance_48 : decode prog_2_method_3_code 48 = .ok (.aload_n 2, 1) := by decide +kernel
theorem d_Cl_advance_49 : decode prog_2_method_3_code 49 = .ok (.dup, 1) := by decide +kernel
theorem d_Cl_advance_50 : decode prog_2_method_3_code 50 = .ok (.getfield 56, 3) := by decide +kernel
theorem d_Cl_advance_53 : decode prog_2_method_3_code 53 = .ok (.iconst 1, 1) := by decide +kernel
theorem d_Cl_advance_54 : decode prog_2_method_3_code 54 = .ok (.iadd, 1) := by decide +kernel
theorem d_Cl_advance_55 : decode prog_2_method_3_code 55 = .ok (.putfield 56, 3) := by decide +kernel
theorem d_Cl_advance_58 : decode prog_2_method_3_code 58 = .ok (.aload_n 2, 1) := by decide +kernel
theorem d_Cl_advance_59 : decode prog_2_method_3_code 59 = .ok (.getfield 59, 3) := by decide +kernel
theorem d_Cl_advance_62 : decode prog_2_method_3_code 62 = .ok (.iload_n 3, 1) := by decide +kernel
theorem d_Cl_advance_63 : decode prog_2_method_3_code 63 = .ok (.invokevirtual 72, 3) := by decide +kernel
theorem d_Cl_advance_66 : decode prog_2_method_3_code 66 = .ok (.ifCond .ne 23, 3) := by decide +kernel
theorem d_Cl_advance_69 : decode prog_2_method_3_code 69 = .ok (.aload_n 2, 1) := by decide +kernel
theorem d_Cl_advance_70 : decode prog_2_method_3_code 70 = .ok (.dup, 1) := by decide +kernel
theorem d_Cl_advance_71 : decode prog_2_method_3_code 71 = .ok (.getfield 65, 3) := by decide +kernel
theorem d_Cl_advance_74 : decode prog_2_method_3_code 74 = .ok (.aload_n 2, 1) := by decide +kernel
theorem d_Cl_advance_75 : decode prog_2_method_3_code 75 = .ok (.getfield 59, 3) := by decide +kernel
theorem d_Cl_advance_78 : decode prog_2_method_3_code 78 = .ok (.iload_n 3, 1) := by decide +kernel
theorem d_Cl_advance_79 : decode prog_2_method_3_code 79 = .ok (.invokevirtual 76, 3) := by decide +kernel
theorem d_Cl_advance_82 : decode prog_2_method_3_code 82 = .ok (.iadd, 1) := by decide +kernel
theorem d_Cl_advance_83 : decode prog_2_method_3_code 83 = .ok (.putfield 65, 3) := by decide +kernel
theorem d_Cl_advance_86 : decode prog_2_method_3_code 86 = .ok (.goto 25, 3) := by decide +kernel
theorem d_Cl_advance_89 : decode prog_2_method_3_code 89 = .ok (.aload_n 0, 1) := by decide +kernel
theorem d_Cl_advance_90 : decode prog_2_method_3_code 90 = .ok (.aload_n 2, 1) := by decide +kernel
theorem d_Cl_advance_91 : decode prog_2_method_3_code 91 = .ok (.getfield 59, 3) := by decide +kernel
theorem d_Cl_advance_94 : decode prog_2_method_3_code 94 = .ok (.iload_n 3, 1) := by decide +kernel
theorem d_Cl_advance_95 : decode prog_2_method_3_code 95 = .ok (.invokevirtual 76, 3) := by decide +kernel
theorem d_Cl_advance_98 : decode prog_2_method_3_code 98 = .ok (.aload_n 2, 1) := by decide +kernel
theorem d_Cl_advance_99 : decode prog_2_method_3_code 99 = .ok (.getfield 59, 3) := by decide +kernel
theorem d_Cl_advance_102 : decode prog_2_method_3_code 102 = .ok (.iload_n 3, 1) := by decide +kernel
theorem d_Cl_advance_103 : decode prog_2_method_3_code 103 = .ok (.invokevirtual 79, 3) := by decide +kernel
theorem d_Cl_advance_106 : decode prog_2_method_3_code 106 = .ok (.aload_n 1, 1) := by decide +kernel
theorem d_Cl_advance_107 : decode prog_2_method_3_code 107 = .ok (.invokevirtual 82, 3) := by decide +kernel
theorem d_Cl_advance_110 : decode prog_2_method_3_code 110 = .ok (.pop, 1) := by decide +kernel
theorem d_Cl_advance_111 : decode prog_2_method_3_code 111 = .ok (.return_, 1) := by decide +kernel
theorem d_Cl_leave_0 : decode prog_2_method_4_code 0 = .ok (.aload_n 0, 1) := by decide +kernel
theorem d_Cl_leave_1 : decode prog_2_method_4_code 1 = .ok (.dup, 1) := by decide +kernel
theorem d_Cl_leave_2 : decode prog_2_method_4_code 2 = .ok (.getfield 17, 3) := by decide +kernel
theorem d_Cl_leave_5 : decode prog_2_method_4_code 5 = .ok (.iconst 1, 1) := by decide +kernel
theorem d_Cl_leave_6 : decode prog_2_method_4_code 6 = .ok (.isub, 1) := by decide +kernel
theorem d_Cl_leave_7 : decode prog_2_method_4_code 7 = .ok (.putfield 17, 3) := by decide +kernel
theorem d_Cl_leave_10 : decode prog_2_method_4_code 10 = .ok (.aload_n 0, 1) := by decide +kernel
theorem d_Cl_leave_11 : decode prog_2_method_4_code 11 = .ok (.getfield 17, 3) := by decide +kernel
theorem d_Cl_leave_14 : decode prog_2_method_4_code 14 = .ok (.ifCond .ne 11, 3) := by decide +kernel
theorem d_Cl_leave_17 : decode prog_2_method_4_code 17 = .ok (.aload_n 0, 1) := by decide +kernel
theorem d_Cl_leave_18 : decode prog_2_method_4_code 18 = .ok (.iload_n 1, 1) := by decide +kernel
theorem d_Cl_leave_19 : decode prog_2_method_4_code 19 = .ok (.putfield 21, 3) := by decide +kernel
theorem d_Cl_leave_22 : decode prog_2_method_4_code 22 = .ok (.goto 23, 3) := by decide +kernel
theorem d_Cl_leave_25 : decode prog_2_method_4_code 25 = .ok (.aload_n 0, 1) := by decide +kernel
theorem d_Cl_leave_26 : decode prog_2_method_4_code 26 = .ok (.getfield 11, 3) := by decide +kernel
theorem d_Cl_leave_29 : decode prog_2_method_4_code 29 = .ok (.aload_n 0, 1) := by decide +kernel
theorem d_Cl_leave_30 : decode prog_2_method_4_code 30 = .ok (.getfield 17, 3) := by decide +kernel
theorem d_Cl_leave_33 : decode prog_2_method_4_code 33 = .ok (.iconst 1, 1) := by decide +kernel
theorem d_Cl_leave_34 : decode prog_2_method_4_code 34 = .ok (.isub, 1) := by decide +kernel
theorem d_Cl_leave_35 : decode prog_2_method_4_code 35 = .ok (.aaload, 1) := by decide +kernel
theorem d_Cl_leave_36 : decode prog_2_method_4_code 36 = .ok (.dup, 1) := by decide +kernel
theorem d_Cl_leave_37 : decode prog_2_method_4_code 37 = .ok (.getfield 65, 3) := by decide +kernel
theorem d_Cl_leave_40 : decode prog_2_method_4_code 40 = .ok (.iload_n 1, 1) := by decide +kernel
theorem d_Cl_leave_41 : decode prog_2_method_4_code 41 = .ok (.iadd, 1) := by decide +kernel
theorem d_Cl_leave_42 : decode prog_2_method_4_code 42 = .ok (.putfield 65, 3) := by decide +kernel
theorem d_Cl_leave_45 : decode prog_2_method_4_code 45 = .ok (.return_, 1) := by decide +kernel
theorem d_Ch_init_0 : decode prog_3_method_1_code 0 = .ok (.aload_n 0, 1) := by decide +kernel
theorem d_Ch_init_1 : decode prog_3_method_1_code 1 = .ok (.invokespecial 3, 3) := by decide +kernel
theorem d_Ch_init_4 : decode prog_3_method_1_code 4 = .ok (.aload_n 0, 1) := by decide +kernel
theorem d_Ch_init_5 : decode prog_3_method_1_code 5 = .ok (.iconst 5, 1) := by decide +kernel
theorem d_Ch_init_6 : decode prog_3_method_1_code 6 = .ok (.anewarray 9, 3) := by decide +kernel
theorem d_Ch_init_9 : decode prog_3_method_1_code 9 = .ok (.putfield 11, 3) := by decide +kernel
theorem d_Ch_init_12 : decode prog_3_method_1_code 12 = .ok (.iconst 0, 1) := by decide +kernel
theorem d_Ch_init_13 : decode prog_3_method_1_code 13 = .ok (.istore_n 1, 1) := by decide +kernel
theorem d_Ch_init_14 : decode prog_3_method_1_code 14 = .ok (.iload_n 1, 1) := by decide +kernel
theorem d_Ch_init_15 : decode prog_3_method_1_code 15 = .ok (.iconst 5, 1) := by decide +kernel
theorem d_Ch_init_16 : decode prog_3_method_1_code 16 = .ok (.if_icmp .ge 22, 3) := by decide +kernel
theorem d_Ch_init_19 : decode prog_3_method_1_code 19 = .ok (.aload_n 0, 1) := by decide +kernel
theorem d_Ch_init_20 : decode prog_3_method_1_code 20 = .ok (.getfield 11, 3) := by decide +kernel
theorem d_Ch_init_23 : decode prog_3_method_1_code 23 = .ok (.iload_n 1, 1) := by decide +kernel
theorem d_Ch_init_24 : decode prog_3_method_1_code 24 = .ok (.new 9, 3) := by decide +kernel
theorem d_Ch_init_27 : decode prog_3_method_1_code 27 = .ok (.dup, 1) := by decide +kernel
theorem d_Ch_init_28 : decode prog_3_method_1_code 28 = .ok (.invokespecial 17, 3) := by decide +kernel
theorem d_Ch_init_31 : decode prog_3_method_1_code 31 = .ok (.aastore, 1) := by decide +kernel
theorem d_Ch_init_32 : decode prog_3_method_1_code 32 = .ok (.iinc 1 1, 3) := by decide +kernel
theorem d_Ch_init_35 : decode prog_3_method_1_code 35 = .ok (.goto (-21), 3) := by decide +kernel
theorem d_Ch_init_38 : decode prog_3_method_1_code 38 = .ok (.return_, 1) := by decide +kernel
theorem d_Ch_put_0 : decode prog_3_method_2_code 0 = .ok (.iload_n 1, 1) := by decide +kernel
theorem d_Ch_put_1 : decode prog_3_method_2_code 1 = .ok (.ifCond .lt 8, 3) := by decide +kernel
theorem d_Ch_put_4 : decode prog_3_method_2_code 4 = .ok (.iload_n 1, 1) := by decide +kernel
theorem d_Ch_put_5 : decode prog_3_method_2_code 5 = .ok (.iconst 4, 1) := by decide +kernel
theorem d_Ch_put_6 : decode prog_3_method_2_code 6 = .ok (.if_icmp .le 5, 3) := by decide +kernel
theorem d_Ch_put_9 : decode prog_3_method_2_code 9 = .ok (.iconst (-1), 1) := by decide +kernel
theorem d_Ch_put_10 : decode prog_3_method_2_code 10 = .ok (.ireturn, 1) := by decide +kernel
theorem d_Ch_put_11 : decode prog_3_method_2_code 11 = .ok (.iconst 0, 1) := by decide +kernel
theorem d_Ch_put_12 : decode prog_3_method_2_code 12 = .ok (.istore 5, 2) := by decide +kernel
theorem d_Ch_put_14 : decode prog_3_method_2_code 14 = .ok (.iload 5, 2) := by decide +kernel
theorem d_Ch_put_16 : decode prog_3_method_2_code 16 = .ok (.iconst 5, 1) := by decide +kernel
theorem d_Ch_put_17 : decode prog_3_method_2_code 17 = .ok (.if_icmp .ge 60, 3) := by decide +kernel
theorem d_Ch_put_20 : decode prog_3_method_2_code 20 = .ok (.aload_n 0, 1) := by decide +kernel
theorem d_Ch_put_21 : decode prog_3_method_2_code 21 = .ok (.getfield 11, 3) := by decide +kernel
theorem d_Ch_put_24 : decode prog_3_method_2_code 24 = .ok (.iload 5, 2) := by decide +kernel
theorem d_Ch_put_26 : decode prog_3_method_2_code 26 = .ok (.aaload, 1) := by decide +kernel
theorem d_Ch_put_27 : decode prog_3_method_2_code 27 = .ok (.astore 6, 2) := by decide +kernel
theorem d_Ch_put_29 : decode prog_3_method_2_code 29 = .ok (.aload 6, 2) := by decide +kernel
theorem d_Ch_put_31 : decode prog_3_method_2_code 31 = .ok (.getfield 18, 3) := by decide +kernel
theorem d_Ch_put_34 : decode prog_3_method_2_code 34 = .ok (.ifCond .ne 37, 3) := by decide +kernel
theorem d_Ch_put_37 : decode prog_3_method_2_code 37 = .ok (.aload 6, 2) := by decide +kernel
theorem d_Ch_put_39 : decode prog_3_method_2_code 39 = .ok (.iconst 1, 1) := by decide +kernel
theorem d_Ch_put_40 : decode prog_3_method_2_code 40 = .ok (.putfield 18, 3) := by decide +kernel
theorem d_Ch_put_43 : decode prog_3_method_2_code 43 = .ok (.aload 6, 2) := by decide +kernel
theorem d_Ch_put_45 : decode prog_3_method_2_code 45 = .ok (.iload_n 1, 1) := by decide +kernel
theorem d_Ch_put_46 : decode prog_3_method_2_code 46 = .ok (.putfield 22, 3) := by decide +kernel
theorem d_Ch_put_49 : decode prog_3_method_2_code 49 = .ok (.aload 6, 2) := by decide +kernel
theorem d_Ch_put_51 : decode prog_3_method_2_code 51 = .ok (.iload_n 2, 1) := by decide +kernel
theorem d_Ch_put_52 : decode prog_3_method_2_code 52 = .ok (.putfield 26, 3) := by decide +kernel
theorem d_Ch_put_55 : decode prog_3_method_2_code 55 = .ok (.aload 6, 2) := by decide +kernel
theorem d_Ch_put_57 : decode prog_3_method_2_code 57 = .ok (.iload_n 3, 1) := by decide +kernel
theorem d_Ch_put_58 : decode prog_3_method_2_code 58 = .ok (.putfield 29, 3) := by decide +kernel
theorem d_Ch_put_61 : decode prog_3_method_2_code 61 = .ok (.aload 6, 2) := by decide +kernel
theorem d_Ch_put_63 : decode prog_3_method_2_code 63 = .ok (.iload 4, 2) := by decide +kernel
theorem d_Ch_put_65 : decode prog_3_method_2_code 65 = .ok (.putfield 32, 3) := by decide +kernel
theorem d_Ch_put_68 : decode prog_3_method_2_code 68 = .ok (.iload 5, 2) := by decide +kernel
theorem d_Ch_put_70 : decode prog_3_method_2_code 70 = .ok (.ireturn, 1) := by decide +kernel
theorem d_Ch_put_71 : decode prog_3_method_2_code 71 = .ok (.iinc 5 1, 3) := by decide +kernel
theorem d_Ch_put_74 : decode prog_3_method_2_code 74 = .ok (.goto (-60), 3) := by decide +kernel
theorem d_Ch_put_77 : decode prog_3_method_2_code 77 = .ok (.iconst (-1), 1) := by decide +kernel
theorem d_Ch_put_78 : decode prog_3_method_2_code 78 = .ok (.ireturn, 1) := by decide +kernel
theorem d_Ch_free_0 : decode prog_3_method_3_code 0 = .ok (.iload_n 1, 1) := by decide +kernel
theorem d_Ch_free_1 : decode prog_3_method_3_code 1 = .ok (.ifCond .lt 20, 3) := by decide +kernel
theorem d_Ch_free_4 : decode prog_3_method_3_code 4 = .ok (.iload_n 1, 1) := by decide +kernel
theorem d_Ch_free_5 : decode prog_3_method_3_code 5 = .ok (.iconst 5, 1) := by decide +kernel
theorem d_Ch_free_6 : decode prog_3_method_3_code 6 = .ok (.if_icmp .ge 15, 3) := by decide +kernel
theorem d_Ch_free_9 : decode prog_3_method_3_code 9 = .ok (.aload_n 0, 1) := by decide +kernel
theorem d_Ch_free_10 : decode prog_3_method_3_code 10 = .ok (.getfield 11, 3) := by decide +kernel
theorem d_Ch_free_13 : decode prog_3_method_3_code 13 = .ok (.iload_n 1, 1) := by decide +kernel
theorem d_Ch_free_14 : decode prog_3_method_3_code 14 = .ok (.aaload, 1) := by decide +kernel
theorem d_Ch_free_15 : decode prog_3_method_3_code 15 = .ok (.getfield 18, 3) := by decide +kernel
theorem d_Ch_free_18 : decode prog_3_method_3_code 18 = .ok (.ifCond .ne 5, 3) := by decide +kernel
theorem d_Ch_free_21 : decode prog_3_method_3_code 21 = .ok (.iconst 0, 1) := by decide +kernel
theorem d_Ch_free_22 : decode prog_3_method_3_code 22 = .ok (.ireturn, 1) := by decide +kernel
theorem d_Ch_free_23 : decode prog_3_method_3_code 23 = .ok (.aload_n 0, 1) := by decide +kernel
theorem d_Ch_free_24 : decode prog_3_method_3_code 24 = .ok (.getfield 11, 3) := by decide +kernel
theorem d_Ch_free_27 : decode prog_3_method_3_code 27 = .ok (.iload_n 1, 1) := by decide +kernel
theorem d_Ch_free_28 : decode prog_3_method_3_code 28 = .ok (.aaload, 1) := by decide +kernel
theorem d_Ch_free_29 : decode prog_3_method_3_code 29 = .ok (.iconst 0, 1) := by decide +kernel
theorem d_Ch_free_30 : decode prog_3_method_3_code 30 = .ok (.putfield 18, 3) := by decide +kernel
theorem d_Ch_free_33 : decode prog_3_method_3_code 33 = .ok (.iconst 1, 1) := by decide +kernel
theorem d_Ch_free_34 : decode prog_3_method_3_code 34 = .ok (.ireturn, 1) := by decide +kernel
theorem d_Ch_treat_0 : decode prog_3_method_4_code 0 = .ok (.aload_n 0, 1) := by decide +kernel
theorem d_Ch_treat_1 : decode prog_3_method_4_code 1 = .ok (.aload_n 1, 1) := by decide +kernel
theorem d_Ch_treat_2 : decode prog_3_method_4_code 2 = .ok (.getfield 35, 3) := by decide +kernel
theorem d_Ch_treat_5 : decode prog_3_method_4_code 5 = .ok (.aload_n 1, 1) := by decide +kernel
theorem d_Ch_treat_6 : decode prog_3_method_4_code 6 = .ok (.getfield 41, 3) := by decide +kernel
theorem d_Ch_treat_9 : decode prog_3_method_4_code 9 = .ok (.iconst 0, 1) := by decide +kernel
theorem d_Ch_treat_10 : decode prog_3_method_4_code 10 = .ok (.invokevirtual 44, 3) := by decide +kernel
theorem d_Ch_treat_13 : decode prog_3_method_4_code 13 = .ok (.aload_n 1, 1) := by decide +kernel
theorem d_Ch_treat_14 : decode prog_3_method_4_code 14 = .ok (.getfield 48, 3) := by decide +kernel
theorem d_Ch_treat_17 : decode prog_3_method_4_code 17 = .ok (.aload_n 1, 1) := by decide +kernel
theorem d_Ch_treat_18 : decode prog_3_method_4_code 18 = .ok (.getfield 35, 3) := by decide +kernel
theorem d_Ch_treat_21 : decode prog_3_method_4_code 21 = .ok (.invokevirtual 51, 3) := by decide +kernel
theorem d_Ch_treat_24 : decode prog_3_method_4_code 24 = .ok (.aload_n 0, 1) := by decide +kernel
theorem d_Ch_treat_25 : decode prog_3_method_4_code 25 = .ok (.aload_n 1, 1) := by decide +kernel
theorem d_Ch_treat_26 : decode prog_3_method_4_code 26 = .ok (.getfield 35, 3) := by decide +kernel
theorem d_Ch_treat_29 : decode prog_3_method_4_code 29 = .ok (.aload_n 1, 1) := by decide +kernel
theorem d_Ch_treat_30 : decode prog_3_method_4_code 30 = .ok (.getfield 41, 3) := by decide +kernel
theorem d_Ch_treat_33 : decode prog_3_method_4_code 33 = .ok (.iconst 1, 1) := by decide +kernel
theorem d_Ch_treat_34 : decode prog_3_method_4_code 34 = .ok (.invokevirtual 44, 3) := by decide +kernel
theorem d_Ch_treat_37 : decode prog_3_method_4_code 37 = .ok (.return_, 1) := by decide +kernel
theorem d_Ch_change_0 : decode prog_3_method_5_code 0 = .ok (.iconst 0, 1) := by decide +kernel
theorem d_Ch_change_1 : decode prog_3_method_5_code 1 = .ok (.istore 4, 2) := by decide +kernel
theorem d_Ch_change_3 : decode prog_3_method_5_code 3 = .ok (.iload 4, 2) := by decide +kernel
theorem d_Ch_change_5 : decode prog_3_method_5_code 5 = .ok (.iconst 5, 1) := by decide +kernel
theorem d_Ch_change_6 : decode prog_3_method_5_code 6 = .ok (.if_icmp .ge 50, 3) := by decide +kernel
theorem d_Ch_change_9 : decode prog_3_method_5_code 9 = .ok (.aload_n 0, 1) := by decide +kernel
theorem d_Ch_change_10 : decode prog_3_method_5_code 10 = .ok (.getfield 11, 3) := by decide +kernel
theorem d_Ch_change_13 : decode prog_3_method_5_code 13 = .ok (.iload 4, 2) := by decide +kernel
theorem d_Ch_change_15 : decode prog_3_method_5_code 15 = .ok (.aaload, 1) := by decide +kernel
theorem d_Ch_change_16 : decode prog_3_method_5_code 16 = .ok (.astore 5, 2) := by decide +kernel
theorem d_Ch_change_18 : decode prog_3_method_5_code 18 = .ok (.aload 5, 2) := by decide +kernel
theorem d_Ch_change_20 : decode prog_3_method_5_code 20 = .ok (.getfield 18, 3) := by decide +kernel
theorem d_Ch_change_23 : decode prog_3_method_5_code 23 = .ok (.ifCond .eq 27, 3) := by decide +kernel
theorem d_Ch_change_26 : decode prog_3_method_5_code 26 = .ok (.aload 5, 2) := by decide +kernel
theorem d_Ch_change_28 : decode prog_3_method_5_code 28 = .ok (.getfield 32, 3) := by decide +kernel
theorem d_Ch_change_31 : decode prog_3_method_5_code 31 = .ok (.iload_n 3, 1) := by decide +kernel
theorem d_Ch_change_32 : decode prog_3_method_5_code 32 = .ok (.if_icmp .ne 18, 3) := by decide +kernel
theorem d_Ch_change_35 : decode prog_3_method_5_code 35 = .ok (.aload 5, 2) := by decide +kernel
theorem d_Ch_change_37 : decode prog_3_method_5_code 37 = .ok (.iload_n 2, 1) := by decide +kernel
theorem d_Ch_change_38 : decode prog_3_method_5_code 38 = .ok (.invokevirtual 57, 3) := by decide +kernel
theorem d_Ch_change_41 : decode prog_3_method_5_code 41 = .ok (.ifCond .eq 9, 3) := by decide +kernel
theorem d_Ch_change_44 : decode prog_3_method_5_code 44 = .ok (.aload 5, 2) := by decide +kernel
theorem d_Ch_change_46 : decode prog_3_method_5_code 46 = .ok (.aload_n 1, 1) := by decide +kernel
theorem d_Ch_change_47 : decode prog_3_method_5_code 47 = .ok (.invokevirtual 61, 3) := by decide +kernel
theorem d_Ch_change_50 : decode prog_3_method_5_code 50 = .ok (.iinc 4 1, 3) := by decide +kernel
theorem d_Ch_change_53 : decode prog_3_method_5_code 53 = .ok (.goto (-50), 3) := by decide +kernel
theorem d_Ch_change_56 : decode prog_3_method_5_code 56 = .ok (.return_, 1) := by decide +kernel
theorem d_Cd_init_0 : decode prog_4_method_1_code 0 = .ok (.aload_n 0, 1) := by decide +kernel
theorem d_Cd_init_1 : decode prog_4_method_1_code 1 = .ok (.invokespecial 3, 3) := by decide +kernel
theorem d_Cd_init_4 : decode prog_4_method_1_code 4 = .ok (.aload_n 0, 1) := by decide +kernel
theorem d_Cd_init_5 : decode prog_4_method_1_code 5 = .ok (.bipush 18, 2) := by decide +kernel
theorem d_Cd_init_7 : decode prog_4_method_1_code 7 = .ok (.newarray .int, 2) := by decide +kernel
theorem d_Cd_init_9 : decode prog_4_method_1_code 9 = .ok (.putfield 11, 3) := by decide +kernel
theorem d_Cd_init_12 : decode prog_4_method_1_code 12 = .ok (.aload_n 0, 1) := by decide +kernel
theorem d_Cd_init_13 : decode prog_4_method_1_code 13 = .ok (.iconst 0, 1) := by decide +kernel
theorem d_Cd_init_14 : decode prog_4_method_1_code 14 = .ok (.putfield 15, 3) := by decide +kernel
theorem d_Cd_init_17 : decode prog_4_method_1_code 17 = .ok (.return_, 1) := by decide +kernel
theorem d_Cd_clear_0 : decode prog_4_method_2_code 0 = .ok (.aload_n 0, 1) := by decide +kernel
theorem d_Cd_clear_1 : decode prog_4_method_2_code 1 = .ok (.iconst 0, 1) := by decide +kernel
theorem d_Cd_clear_2 : decode prog_4_method_2_code 2 = .ok (.putfield 15, 3) := by decide +kernel
theorem d_Cd_clear_5 : decode prog_4_method_2_code 5 = .ok (.return_, 1) := by decide +kernel
theorem d_Cd_become_0 : decode prog_4_method_3_code 0 = .ok (.aload_n 0, 1) := by decide +kernel
theorem d_Cd_become_1 : decode prog_4_method_3_code 1 = .ok (.aload_n 1, 1) := by decide +kernel
theorem d_Cd_become_2 : decode prog_4_method_3_code 2 = .ok (.getfield 15, 3) := by decide +kernel
theorem d_Cd_become_5 : decode prog_4_method_3_code 5 = .ok (.putfield 15, 3) := by decide +kernel
theorem d_Cd_become_8 : decode prog_4_method_3_code 8 = .ok (.aload_n 1, 1) := by decide +kernel
theorem d_Cd_become_9 : decode prog_4_method_3_code 9 = .ok (.getfield 11, 3) := by decide +kernel
theorem d_Cd_become_12 : decode prog_4_method_3_code 12 = .ok (.iconst 0, 1) := by decide +kernel
theorem d_Cd_become_13 : decode prog_4_method_3_code 13 = .ok (.aload_n 0, 1) := by decide +kernel
theorem d_Cd_become_14 : decode prog_4_method_3_code 14 = .ok (.getfield 11, 3) := by decide +kernel
theorem d_Cd_become_17 : decode prog_4_method_3_code 17 = .ok (.iconst 0, 1) := by decide +kernel
theorem d_Cd_become_18 : decode prog_4_method_3_code 18 = .ok (.aload_n 0, 1) := by decide +kernel
theorem d_Cd_become_19 : decode prog_4_method_3_code 19 = .ok (.getfield 15, 3) := by decide +kernel
theorem d_Cd_become_22 : decode prog_4_method_3_code 22 = .ok (.iconst 3, 1) := by decide +kernel
theorem d_Cd_become_23 : decode prog_4_method_3_code 23 = .ok (.imul, 1) := by decide +kernel
theorem d_Cd_become_24 : decode prog_4_method_3_code 24 = .ok (.invokestatic 19, 3) := by decide +kernel
theorem d_Cd_become_27 : decode prog_4_method_3_code 27 = .ok (.return_, 1) := by decide +kernel
theorem d_Cd_add_0 : decode prog_4_method_4_code 0 = .ok (.aload_n 0, 1) := by decide +kernel
theorem d_Cd_add_1 : decode prog_4_method_4_code 1 = .ok (.getfield 15, 3) := by decide +kernel
theorem d_Cd_add_4 : decode prog_4_method_4_code 4 = .ok (.bipush 6, 2) := by decide +kernel
theorem d_Cd_add_6 : decode prog_4_method_4_code 6 = .ok (.if_icmp .lt 5, 3) := by decide +kernel
theorem d_Cd_add_9 : decode prog_4_method_4_code 9 = .ok (.iconst 0, 1) := by decide +kernel
theorem d_Cd_add_10 : decode prog_4_method_4_code 10 = .ok (.ireturn, 1) := by decide +kernel
theorem d_Cd_add_11 : decode prog_4_method_4_code 11 = .ok (.aload_n 0, 1) := by decide +kernel
theorem d_Cd_add_12 : decode prog_4_method_4_code 12 = .ok (.getfield 11, 3) := by decide +kernel
theorem d_Cd_add_15 : decode prog_4_method_4_code 15 = .ok (.aload_n 0, 1) := by decide +kernel
theorem d_Cd_add_16 : decode prog_4_method_4_code 16 = .ok (.getfield 15, 3) := by decide +kernel
theorem d_Cd_add_19 : decode prog_4_method_4_code 19 = .ok (.iconst 3, 1) := by decide +kernel
theorem d_Cd_add_20 : decode prog_4_method_4_code 20 = .ok (.imul, 1) := by decide +kernel
theorem d_Cd_add_21 : decode prog_4_method_4_code 21 = .ok (.iload_n 1, 1) := by decide +kernel
theorem d_Cd_add_22 : decode prog_4_method_4_code 22 = .ok (.iastore, 1) := by decide +kernel
theorem d_Cd_add_23 : decode prog_4_method_4_code 23 = .ok (.aload_n 0, 1) := by decide +kernel
theorem d_Cd_add_24 : decode prog_4_method_4_code 24 = .ok (.getfield 11, 3) := by decide +kernel
theorem d_Cd_add_27 : decode prog_4_method_4_code 27 = .ok (.aload_n 0, 1) := by decide +kernel
theorem d_Cd_add_28 : decode prog_4_method_4_code 28 = .ok (.getfield 15, 3) := by decide +kernel
theorem d_Cd_add_31 : decode prog_4_method_4_code 31 = .ok (.iconst 3, 1) := by decide +kernel
theorem d_Cd_add_32 : decode prog_4_method_4_code 32 = .ok (.imul, 1) := by decide +kernel
theorem d_Cd_add_33 : decode prog_4_method_4_code 33 = .ok (.iconst 1, 1) := by decide +kernel
theorem d_Cd_add_34 : decode prog_4_method_4_code 34 = .ok (.iadd, 1) := by decide +kernel
theorem d_Cd_add_35 : decode prog_4_method_4_code 35 = .ok (.iload_n 2, 1) := by decide +kernel
theorem d_Cd_add_36 : decode prog_4_method_4_code 36 = .ok (.iastore, 1) := by decide +kernel
theorem d_Cd_add_37 : decode prog_4_method_4_code 37 = .ok (.aload_n 0, 1) := by decide +kernel
theorem d_Cd_add_38 : decode prog_4_method_4_code 38 = .ok (.getfield 11, 3) := by decide +kernel
theorem d_Cd_add_41 : decode prog_4_method_4_code 41 = .ok (.aload_n 0, 1) := by decide +kernel
theorem d_Cd_add_42 : decode prog_4_method_4_code 42 = .ok (.getfield 15, 3) := by decide +kernel
theorem d_Cd_add_45 : decode prog_4_method_4_code 45 = .ok (.iconst 3, 1) := by decide +kernel
theorem d_Cd_add_46 : decode prog_4_method_4_code 46 = .ok (.imul, 1) := by decide +kernel
theorem d_Cd_add_47 : decode prog_4_method_4_code 47 = .ok (.iconst 2, 1) := by decide +kernel
theorem d_Cd_add_48 : decode prog_4_method_4_code 48 = .ok (.iadd, 1) := by decide +kernel
theorem d_Cd_add_49 : decode prog_4_method_4_code 49 = .ok (.iload_n 3, 1) := by decide +kernel
theorem d_Cd_add_50 : decode prog_4_method_4_code 50 = .ok (.iastore, 1) := by decide +kernel
theorem d_Cd_add_51 : decode prog_4_method_4_code 51 = .ok (.aload_n 0, 1) := by decide +kernel
theorem d_Cd_add_52 : decode prog_4_method_4_code 52 = .ok (.dup, 1) := by decide +kernel
theorem d_Cd_add_53 : decode prog_4_method_4_code 53 = .ok (.getfield 15, 3) := by decide +kernel
theorem d_Cd_add_56 : decode prog_4_method_4_code 56 = .ok (.iconst 1, 1) := by decide +kernel
theorem d_Cd_add_57 : decode prog_4_method_4_code 57 = .ok (.iadd, 1) := by decide +kernel
theorem d_Cd_add_58 : decode prog_4_method_4_code 58 = .ok (.putfield 15, 3) := by decide +kernel
theorem d_Cd_add_61 : decode prog_4_method_4_code 61 = .ok (.iconst 1, 1) := by decide +kernel
theorem d_Cd_add_62 : decode prog_4_method_4_code 62 = .ok (.ireturn, 1) := by decide +kernel
theorem d_Cd_opAt_0 : decode prog_4_method_5_code 0 = .ok (.aload_n 0, 1) := by decide +kernel
theorem d_Cd_opAt_1 : decode prog_4_method_5_code 1 = .ok (.getfield 11, 3) := by decide +kernel
theorem d_Cd_opAt_4 : decode prog_4_method_5_code 4 = .ok (.iload_n 1, 1) := by decide +kernel
theorem d_Cd_opAt_5 : decode prog_4_method_5_code 5 = .ok (.iconst 3, 1) := by decide +kernel
theorem d_Cd_opAt_6 : decode prog_4_method_5_code 6 = .ok (.imul, 1) := by decide +kernel
theorem d_Cd_opAt_7 : decode prog_4_method_5_code 7 = .ok (.iaload, 1) := by decide +kernel
theorem d_Cd_opAt_8 : decode prog_4_method_5_code 8 = .ok (.ireturn, 1) := by decide +kernel
theorem d_Cd_firstOperandAt_0 : decode prog_4_method_6_code 0 = .ok (.aload_n 0, 1) := by decide +kernel
theorem d_Cd_firstOperandAt_1 : decode prog_4_method_6_code 1 = .ok (.getfield 11, 3) := by decide +kernel
theorem d_Cd_firstOperandAt_4 : decode prog_4_method_6_code 4 = .ok (.iload_n 1, 1) := by decide +kernel
theorem d_Cd_firstOperandAt_5 : decode prog_4_method_6_code 5 = .ok (.iconst 3, 1) := by decide +kernel
theorem d_Cd_firstOperandAt_6 : decode prog_4_method_6_code 6 = .ok (.imul, 1) := by decide +kernel
theorem d_Cd_firstOperandAt_7 : decode prog_4_method_6_code 7 = .ok (.iconst 1, 1) := by decide +kernel
theorem d_Cd_firstOperandAt_8 : decode prog_4_method_6_code 8 = .ok (.iadd, 1) := by decide +kernel
theorem d_Cd_firstOperandAt_9 : decode prog_4_method_6_code 9 = .ok (.iaload, 1) := by decide +kernel
theorem d_Cd_firstOperandAt_10 : decode prog_4_method_6_code 10 = .ok (.ireturn, 1) := by decide +kernel
theorem d_Cd_secondOperandAt_0 : decode prog_4_method_7_code 0 = .ok (.aload_n 0, 1) := by decide +kernel
theorem d_Cd_secondOperandAt_1 : decode prog_4_method_7_code 1 = .ok (.getfield 11, 3) := by decide +kernel
theorem d_Cd_secondOperandAt_4 : decode prog_4_method_7_code 4 = .ok (.iload_n 1, 1) := by decide +kernel
theorem d_Cd_secondOperandAt_5 : decode prog_4_method_7_code 5 = .ok (.iconst 3, 1) := by decide +kernel
theorem d_Cd_secondOperandAt_6 : decode prog_4_method_7_code 6 = .ok (.imul, 1) := by decide +kernel
theorem d_Cd_secondOperandAt_7 : decode prog_4_method_7_code 7 = .ok (.iconst 2, 1) := by decide +kernel
theorem d_Cd_secondOperandAt_8 : decode prog_4_method_7_code 8 = .ok (.iadd, 1) := by decide +kernel
theorem d_Cd_secondOperandAt_9 : decode prog_4_method_7_code 9 = .ok (.iaload, 1) := by decide +kernel
theorem d_Cd_secondOperandAt_10 : decode prog_4_method_7_code 10 = .ok (.ireturn, 1) := by decide +kernel
theorem d_Cd_raiseAdditions_0 : decode prog_4_method_8_code 0 = .ok (.iconst 0, 1) := by decide +kernel
theorem d_Cd_raiseAdditions_1 : decode prog_4_method_8_code 1 = .ok (.istore_n 2, 1) := by decide +kernel
theorem d_Cd_raiseAdditions_2 : decode prog_4_method_8_code 2 = .ok (.iload_n 2, 1) := by decide +kernel
theorem d_Cd_raiseAdditions_3 : decode prog_4_method_8_code 3 = .ok (.aload_n 0, 1) := by decide +kernel
theorem d_Cd_raiseAdditions_4 : decode prog_4_method_8_code 4 = .ok (.getfield 15, 3) := by decide +kernel
theorem d_Cd_raiseAdditions_7 : decode prog_4_method_8_code 7 = .ok (.if_icmp .ge 31, 3) := by decide +kernel
theorem d_Cd_raiseAdditions_10 : decode prog_4_method_8_code 10 = .ok (.aload_n 0, 1) := by decide +kernel
theorem d_Cd_raiseAdditions_11 : decode prog_4_method_8_code 11 = .ok (.iload_n 2, 1) := by decide +kernel
theorem d_Cd_raiseAdditions_12 : decode prog_4_method_8_code 12 = .ok (.invokevirtual 25, 3) := by decide +kernel
theorem d_Cd_raiseAdditions_15 : decode prog_4_method_8_code 15 = .ok (.ifCond .ne 17, 3) := by decide +kernel
theorem d_Cd_raiseAdditions_18 : decode prog_4_method_8_code 18 = .ok (.aload_n 0, 1) := by decide +kernel
theorem d_Cd_raiseAdditions_19 : decode prog_4_method_8_code 19 = .ok (.getfield 11, 3) := by decide +kernel
theorem d_Cd_raiseAdditions_22 : decode prog_4_method_8_code 22 = .ok (.iload_n 2, 1) := by decide +kernel
theorem d_Cd_raiseAdditions_23 : decode prog_4_method_8_code 23 = .ok (.iconst 3, 1) := by decide +kernel
theorem d_Cd_raiseAdditions_24 : decode prog_4_method_8_code 24 = .ok (.imul, 1) := by decide +kernel
theorem d_Cd_raiseAdditions_25 : decode prog_4_method_8_code 25 = .ok (.iconst 1, 1) := by decide +kernel
theorem d_Cd_raiseAdditions_26 : decode prog_4_method_8_code 26 = .ok (.iadd, 1) := by decide +kernel
theorem d_Cd_raiseAdditions_27 : decode prog_4_method_8_code 27 = .ok (.dup2, 1) := by decide +kernel
theorem d_Cd_raiseAdditions_28 : decode prog_4_method_8_code 28 = .ok (.iaload, 1) := by decide +kernel
theorem d_Cd_raiseAdditions_29 : decode prog_4_method_8_code 29 = .ok (.iload_n 1, 1) := by decide +kernel
theorem d_Cd_raiseAdditions_30 : decode prog_4_method_8_code 30 = .ok (.iadd, 1) := by decide +kernel
theorem d_Cd_raiseAdditions_31 : decode prog_4_method_8_code 31 = .ok (.iastore, 1) := by decide +kernel
theorem d_Cd_raiseAdditions_32 : decode prog_4_method_8_code 32 = .ok (.iinc 2 1, 3) := by decide +kernel
theorem d_Cd_raiseAdditions_35 : decode prog_4_method_8_code 35 = .ok (.goto (-33), 3) := by decide +kernel
theorem d_Cd_raiseAdditions_38 : decode prog_4_method_8_code 38 = .ok (.return_, 1) := by decide +kernel
theorem d_Df_init_0 : decode prog_5_method_1_code 0 = .ok (.aload_n 0, 1) := by decide +kernel
theorem d_Df_init_1 : decode prog_5_method_1_code 1 = .ok (.invokespecial 3, 3) := by decide +kernel
theorem d_Df_init_4 : decode prog_5_method_1_code 4 = .ok (.aload_n 0, 1) := by decide +kernel
theorem d_Df_init_5 : decode prog_5_method_1_code 5 = .ok (.iconst 5, 1) := by decide +kernel
theorem d_Df_init_6 : decode prog_5_method_1_code 6 = .ok (.newarray .int, 2) := by decide +kernel
theorem d_Df_init_8 : decode prog_5_method_1_code 8 = .ok (.putfield 9, 3) := by decide +kernel
theorem d_Df_init_11 : decode prog_5_method_1_code 11 = .ok (.aload_n 0, 1) := by decide +kernel
theorem d_Df_init_12 : decode prog_5_method_1_code 12 = .ok (.iconst 3, 1) := by decide +kernel
theorem d_Df_init_13 : decode prog_5_method_1_code 13 = .ok (.newarray .int, 2) := by decide +kernel
theorem d_Df_init_15 : decode prog_5_method_1_code 15 = .ok (.putfield 15, 3) := by decide +kernel
theorem d_Df_init_18 : decode prog_5_method_1_code 18 = .ok (.aload_n 0, 1) := by decide +kernel
theorem d_Df_init_19 : decode prog_5_method_1_code 19 = .ok (.iconst 0, 1) := by decide +kernel
theorem d_Df_init_20 : decode prog_5_method_1_code 20 = .ok (.putfield 18, 3) := by decide +kernel
theorem d_Df_init_23 : decode prog_5_method_1_code 23 = .ok (.aload_n 0, 1) := by decide +kernel
theorem d_Df_init_24 : decode prog_5_method_1_code 24 = .ok (.bipush 12, 2) := by decide +kernel
theorem d_Df_init_26 : decode prog_5_method_1_code 26 = .ok (.newarray .int, 2) := by decide +kernel
theorem d_Df_init_28 : decode prog_5_method_1_code 28 = .ok (.putfield 22, 3) := by decide +kernel
theorem d_Df_init_31 : decode prog_5_method_1_code 31 = .ok (.aload_n 0, 1) := by decide +kernel
theorem d_Df_init_32 : decode prog_5_method_1_code 32 = .ok (.iconst 0, 1) := by decide +kernel
theorem d_Df_init_33 : decode prog_5_method_1_code 33 = .ok (.putfield 25, 3) := by decide +kernel
theorem d_Df_init_36 : decode prog_5_method_1_code 36 = .ok (.aload_n 0, 1) := by decide +kernel
theorem d_Df_init_37 : decode prog_5_method_1_code 37 = .ok (.iconst 4, 1) := by decide +kernel
theorem d_Df_init_38 : decode prog_5_method_1_code 38 = .ok (.anewarray 28, 3) := by decide +kernel
theorem d_Df_init_41 : decode prog_5_method_1_code 41 = .ok (.putfield 30, 3) := by decide +kernel
theorem d_Df_init_44 : decode prog_5_method_1_code 44 = .ok (.aload_n 0, 1) := by decide +kernel
theorem d_Df_init_45 : decode prog_5_method_1_code 45 = .ok (.iconst 0, 1) := by decide +kernel
theorem d_Df_init_46 : decode prog_5_method_1_code 46 = .ok (.putfield 34, 3) := by decide +kernel
theorem d_Df_init_49 : decode prog_5_method_1_code 49 = .ok (.iconst 0, 1) := by decide +kernel
theorem d_Df_init_50 : decode prog_5_method_1_code 50 = .ok (.istore_n 1, 1) := by decide +kernel
theorem d_Df_init_51 : decode prog_5_method_1_code 51 = .ok (.iload_n 1, 1) := by decide +kernel
theorem d_Df_init_52 : decode prog_5_method_1_code 52 = .ok (.iconst 4, 1) := by decide +kernel
theorem d_Df_init_53 : decode prog_5_method_1_code 53 = .ok (.if_icmp .ge 22, 3) := by decide +kernel
theorem d_Df_init_56 : decode prog_5_method_1_code 56 = .ok (.aload_n 0, 1) := by decide +kernel
theorem d_Df_init_57 : decode prog_5_method_1_code 57 = .ok (.getfield 30, 3) := by decide +kernel
theorem d_Df_init_60 : decode prog_5_method_1_code 60 = .ok (.iload_n 1, 1) := by decide +kernel
theorem d_Df_init_61 : decode prog_5_method_1_code 61 = .ok (.new 28, 3) := by decide +kernel
theorem d_Df_init_64 : decode prog_5_method_1_code 64 = .ok (.dup, 1) := by decide +kernel
theorem d_Df_init_65 : decode prog_5_method_1_code 65 = .ok (.invokespecial 37, 3) := by decide +kernel
theorem d_Df_init_68 : decode prog_5_method_1_code 68 = .ok (.aastore, 1) := by decide +kernel
theorem d_Df_init_69 : decode prog_5_method_1_code 69 = .ok (.iinc 1 1, 3) := by decide +kernel
theorem d_Df_init_72 : decode prog_5_method_1_code 72 = .ok (.goto (-21), 3) := by decide +kernel
theorem d_Df_init_75 : decode prog_5_method_1_code 75 = .ok (.aload_n 0, 1) := by decide +kernel
theorem d_Df_init_76 : decode prog_5_method_1_code 76 = .ok (.invokevirtual 38, 3) := by decide +kernel
theorem d_Df_init_79 : decode prog_5_method_1_code 79 = .ok (.return_, 1) := by decide +kernel
theorem d_Df_clear_0 : decode prog_5_method_2_code 0 = .ok (.aload_n 0, 1) := by decide +kernel
theorem d_Df_clear_1 : decode prog_5_method_2_code 1 = .ok (.getfield 9, 3) := by decide +kernel
theorem d_Df_clear_4 : decode prog_5_method_2_code 4 = .ok (.iconst 0, 1) := by decide +kernel
theorem d_Df_clear_5 : decode prog_5_method_2_code 5 = .ok (.iconst 1, 1) := by decide +kernel
theorem d_Df_clear_6 : decode prog_5_method_2_code 6 = .ok (.iastore, 1) := by decide +kernel
theorem d_Df_clear_7 : decode prog_5_method_2_code 7 = .ok (.aload_n 0, 1) := by decide +kernel
theorem d_Df_clear_8 : decode prog_5_method_2_code 8 = .ok (.getfield 9, 3) := by decide +kernel
theorem d_Df_clear_11 : decode prog_5_method_2_code 11 = .ok (.iconst 1, 1) := by decide +kernel
theorem d_Df_clear_12 : decode prog_5_method_2_code 12 = .ok (.iconst 0, 1) := by decide +kernel
theorem d_Df_clear_13 : decode prog_5_method_2_code 13 = .ok (.iastore, 1) := by decide +kernel
theorem d_Df_clear_14 : decode prog_5_method_2_code 14 = .ok (.aload_n 0, 1) := by decide +kernel
theorem d_Df_clear_15 : decode prog_5_method_2_code 15 = .ok (.getfield 9, 3) := by decide +kernel
theorem d_Df_clear_18 : decode prog_5_method_2_code 18 = .ok (.iconst 2, 1) := by decide +kernel
theorem d_Df_clear_19 : decode prog_5_method_2_code 19 = .ok (.iconst (-1), 1) := by decide +kernel
theorem d_Df_clear_20 : decode prog_5_method_2_code 20 = .ok (.iastore, 1) := by decide +kernel
theorem d_Df_clear_21 : decode prog_5_method_2_code 21 = .ok (.aload_n 0, 1) := by decide +kernel
theorem d_Df_clear_22 : decode prog_5_method_2_code 22 = .ok (.getfield 9, 3) := by decide +kernel
theorem d_Df_clear_25 : decode prog_5_method_2_code 25 = .ok (.iconst 3, 1) := by decide +kernel
theorem d_Df_clear_26 : decode prog_5_method_2_code 26 = .ok (.iconst 0, 1) := by decide +kernel
theorem d_Df_clear_27 : decode prog_5_method_2_code 27 = .ok (.iastore, 1) := by decide +kernel
theorem d_Df_clear_28 : decode prog_5_method_2_code 28 = .ok (.aload_n 0, 1) := by decide +kernel
theorem d_Df_clear_29 : decode prog_5_method_2_code 29 = .ok (.getfield 9, 3) := by decide +kernel
theorem d_Df_clear_32 : decode prog_5_method_2_code 32 = .ok (.iconst 4, 1) := by decide +kernel
theorem d_Df_clear_33 : decode prog_5_method_2_code 33 = .ok (.iconst 0, 1) := by decide +kernel
theorem d_Df_clear_34 : decode prog_5_method_2_code 34 = .ok (.iastore, 1) := by decide +kernel
theorem d_Df_clear_35 : decode prog_5_method_2_code 35 = .ok (.aload_n 0, 1) := by decide +kernel
theorem d_Df_clear_36 : decode prog_5_method_2_code 36 = .ok (.iconst 0, 1) := by decide +kernel
theorem d_Df_clear_37 : decode prog_5_method_2_code 37 = .ok (.putfield 18, 3) := by decide +kernel
theorem d_Df_clear_40 : decode prog_5_method_2_code 40 = .ok (.aload_n 0, 1) := by decide +kernel
theorem d_Df_clear_41 : decode prog_5_method_2_code 41 = .ok (.iconst 0, 1) := by decide +kernel
theorem d_Df_clear_42 : decode prog_5_method_2_code 42 = .ok (.putfield 25, 3) := by decide +kernel
theorem d_Df_clear_45 : decode prog_5_method_2_code 45 = .ok (.aload_n 0, 1) := by decide +kernel
theorem d_Df_clear_46 : decode prog_5_method_2_code 46 = .ok (.iconst 0, 1) := by decide +kernel
theorem d_Df_clear_47 : decode prog_5_method_2_code 47 = .ok (.putfield 34, 3) := by decide +kernel
theorem d_Df_clear_50 : decode prog_5_method_2_code 50 = .ok (.return_, 1) := by decide +kernel
theorem d_Df_become_0 : decode prog_5_method_3_code 0 = .ok (.aload_n 1, 1) := by decide +kernel
theorem d_Df_become_1 : decode prog_5_method_3_code 1 = .ok (.getfield 9, 3) := by decide +kernel
theorem d_Df_become_4 : decode prog_5_method_3_code 4 = .ok (.iconst 0, 1) := by decide +kernel
theorem d_Df_become_5 : decode prog_5_method_3_code 5 = .ok (.aload_n 0, 1) := by decide +kernel
theorem d_Df_become_6 : decode prog_5_method_3_code 6 = .ok (.getfield 9, 3) := by decide +kernel
theorem d_Df_become_9 : decode prog_5_method_3_code 9 = .ok (.iconst 0, 1) := by decide +kernel
theorem d_Df_become_10 : decode prog_5_method_3_code 10 = .ok (.iconst 5, 1) := by decide +kernel
theorem d_Df_become_11 : decode prog_5_method_3_code 11 = .ok (.invokestatic 41, 3) := by decide +kernel
theorem d_Df_become_14 : decode prog_5_method_3_code 14 = .ok (.aload_n 0, 1) := by decide +kernel
theorem d_Df_become_15 : decode prog_5_method_3_code 15 = .ok (.aload_n 1, 1) := by decide +kernel
theorem d_Df_become_16 : decode prog_5_method_3_code 16 = .ok (.getfield 18, 3) := by decide +kernel
theorem d_Df_become_19 : decode prog_5_method_3_code 19 = .ok (.putfield 18, 3) := by decide +kernel
theorem d_Df_become_22 : decode prog_5_method_3_code 22 = .ok (.aload_n 1, 1) := by decide +kernel
theorem d_Df_become_23 : decode prog_5_method_3_code 23 = .ok (.getfield 15, 3) := by decide +kernel
theorem d_Df_become_26 : decode prog_5_method_3_code 26 = .ok (.iconst 0, 1) := by decide +kernel
theorem d_Df_become_27 : decode prog_5_method_3_code 27 = .ok (.aload_n 0, 1) := by decide +kernel
theorem d_Df_become_28 : decode prog_5_method_3_code 28 = .ok (.getfield 15, 3) := by decide +kernel
theorem d_Df_become_31 : decode prog_5_method_3_code 31 = .ok (.iconst 0, 1) := by decide +kernel
theorem d_Df_become_32 : decode prog_5_method_3_code 32 = .ok (.aload_n 0, 1) := by decide +kernel
theorem d_Df_become_33 : decode prog_5_method_3_code 33 = .ok (.getfield 18, 3) := by decide +kernel
theorem d_Df_become_36 : decode prog_5_method_3_code 36 = .ok (.invokestatic 41, 3) := by decide +kernel
theorem d_Df_become_39 : decode prog_5_method_3_code 39 = .ok (.aload_n 0, 1) := by decide +kernel
theorem d_Df_become_40 : decode prog_5_method_3_code 40 = .ok (.aload_n 1, 1) := by decide +kernel
theorem d_Df_become_41 : decode prog_5_method_3_code 41 = .ok (.getfield 25, 3) := by decide +kernel
theorem d_Df_become_44 : decode prog_5_method_3_code 44 = .ok (.putfield 25, 3) := by decide +kernel
theorem d_Df_become_47 : decode prog_5_method_3_code 47 = .ok (.aload_n 1, 1) := by decide +kernel
theorem d_Df_become_48 : decode prog_5_method_3_code 48 = .ok (.getfield 22, 3) := by decide +kernel
theorem d_Df_become_51 : decode prog_5_method_3_code 51 = .ok (.iconst 0, 1) := by decide +kernel
theorem d_Df_become_52 : decode prog_5_method_3_code 52 = .ok (.aload_n 0, 1) := by decide +kernel
theorem d_Df_become_53 : decode prog_5_method_3_code 53 = .ok (.getfield 22, 3) := by decide +kernel
theorem d_Df_become_56 : decode prog_5_method_3_code 56 = .ok (.iconst 0, 1) := by decide +kernel
theorem d_Df_become_57 : decode prog_5_method_3_code 57 = .ok (.aload_n 0, 1) := by decide +kernel
theorem d_Df_become_58 : decode prog_5_method_3_code 58 = .ok (.getfield 25, 3) := by decide +kernel
theorem d_Df_become_61 : decode prog_5_method_3_code 61 = .ok (.iconst 3, 1) := by decide +kernel
theorem d_Df_become_62 : decode prog_5_method_3_code 62 = .ok (.imul, 1) := by decide +kernel
theorem d_Df_become_63 : decode prog_5_method_3_code 63 = .ok (.invokestatic 41, 3) := by decide +kernel
theorem d_Df_become_66 : decode prog_5_method_3_code 66 = .ok (.aload_n 0, 1) := by decide +kernel
theorem d_Df_become_67 : decode prog_5_method_3_code 67 = .ok (.aload_n 1, 1) := by decide +kernel
theorem d_Df_become_68 : decode prog_5_method_3_code 68 = .ok (.getfield 34, 3) := by decide +kernel
theorem d_Df_become_71 : decode prog_5_method_3_code 71 = .ok (.putfield 34, 3) := by decide +kernel
theorem d_Df_become_74 : decode prog_5_method_3_code 74 = .ok (.iconst 0, 1) := by decide +kernel
theorem d_Df_become_75 : decode prog_5_method_3_code 75 = .ok (.istore_n 2, 1) := by decide +kernel
theorem d_Df_become_76 : decode prog_5_method_3_code 76 = .ok (.iload_n 2, 1) := by decide +kernel
theorem d_Df_become_77 : decode prog_5_method_3_code 77 = .ok (.aload_n 0, 1) := by decide +kernel
theorem d_Df_become_78 : decode prog_5_method_3_code 78 = .ok (.getfield 34, 3) := by decide +kernel
theorem d_Df_become_81 : decode prog_5_method_3_code 81 = .ok (.if_icmp .ge 24, 3) := by decide +kernel
theorem d_Df_become_84 : decode prog_5_method_3_code 84 = .ok (.aload_n 0, 1) := by decide +kernel
theorem d_Df_become_85 : decode prog_5_method_3_code 85 = .ok (.getfield 30, 3) := by decide +kernel
theorem d_Df_become_88 : decode prog_5_method_3_code 88 = .ok (.iload_n 2, 1) := by decide +kernel
theorem d_Df_become_89 : decode prog_5_method_3_code 89 = .ok (.aaload, 1) := by decide +kernel
theorem d_Df_become_90 : decode prog_5_method_3_code 90 = .ok (.aload_n 1, 1) := by decide +kernel
theorem d_Df_become_91 : decode prog_5_method_3_code 91 = .ok (.getfield 30, 3) := by decide +kernel
theorem d_Df_become_94 : decode prog_5_method_3_code 94 = .ok (.iload_n 2, 1) := by decide +kernel
theorem d_Df_become_95 : decode prog_5_method_3_code 95 = .ok (.aaload, 1) := by decide +kernel
theorem d_Df_become_96 : decode prog_5_method_3_code 96 = .ok (.invokevirtual 47, 3) := by decide +kernel
theorem d_Df_become_99 : decode prog_5_method_3_code 99 = .ok (.iinc 2 1, 3) := by decide +kernel
theorem d_Df_become_102 : decode prog_5_method_3_code 102 = .ok (.goto (-26), 3) := by decide +kernel
theorem d_Df_become_105 : decode prog_5_method_3_code 105 = .ok (.return_, 1) := by decide +kernel
theorem d_Df_addInterface_0 : decode prog_5_method_4_code 0 = .ok (.aload_n 0, 1) := by decide +kernel
theorem d_Df_addInterface_1 : decode prog_5_method_4_code 1 = .ok (.getfield 18, 3) := by decide +kernel
theorem d_Df_addInterface_4 : decode prog_5_method_4_code 4 = .ok (.iconst 3, 1) := by decide +kernel
theorem d_Df_addInterface_5 : decode prog_5_method_4_code 5 = .ok (.if_icmp .lt 5, 3) := by decide +kernel
theorem d_Df_addInterface_8 : decode prog_5_method_4_code 8 = .ok (.iconst 0, 1) := by decide +kernel
theorem d_Df_addInterface_9 : decode prog_5_method_4_code 9 = .ok (.ireturn, 1) := by decide +kernel
theorem d_Df_addInterface_10 : decode prog_5_method_4_code 10 = .ok (.aload_n 0, 1) := by decide +kernel
theorem d_Df_addInterface_11 : decode prog_5_method_4_code 11 = .ok (.getfield 15, 3) := by decide +kernel
theorem d_Df_addInterface_14 : decode prog_5_method_4_code 14 = .ok (.aload_n 0, 1) := by decide +kernel
theorem d_Df_addInterface_15 : decode prog_5_method_4_code 15 = .ok (.getfield 18, 3) := by decide +kernel
theorem d_Df_addInterface_18 : decode prog_5_method_4_code 18 = .ok (.iload_n 1, 1) := by decide +kernel
theorem d_Df_addInterface_19 : decode prog_5_method_4_code 19 = .ok (.iastore, 1) := by decide +kernel
theorem d_Df_addInterface_20 : decode prog_5_method_4_code 20 = .ok (.aload_n 0, 1) := by decide +kernel
theorem d_Df_addInterface_21 : decode prog_5_method_4_code 21 = .ok (.dup, 1) := by decide +kernel
theorem d_Df_addInterface_22 : decode prog_5_method_4_code 22 = .ok (.getfield 18, 3) := by decide +kernel
theorem d_Df_addInterface_25 : decode prog_5_method_4_code 25 = .ok (.iconst 1, 1) := by decide +kernel
theorem d_Df_addInterface_26 : decode prog_5_method_4_code 26 = .ok (.iadd, 1) := by decide +kernel
theorem d_Df_addInterface_27 : decode prog_5_method_4_code 27 = .ok (.putfield 18, 3) := by decide +kernel
theorem d_Df_addInterface_30 : decode prog_5_method_4_code 30 = .ok (.iconst 1, 1) := by decide +kernel
theorem d_Df_addInterface_31 : decode prog_5_method_4_code 31 = .ok (.ireturn, 1) := by decide +kernel
theorem d_Df_addField_0 : decode prog_5_method_5_code 0 = .ok (.aload_n 0, 1) := by decide +kernel
theorem d_Df_addField_1 : decode prog_5_method_5_code 1 = .ok (.getfield 25, 3) := by decide +kernel
theorem d_Df_addField_4 : decode prog_5_method_5_code 4 = .ok (.iconst 4, 1) := by decide +kernel
theorem d_Df_addField_5 : decode prog_5_method_5_code 5 = .ok (.if_icmp .lt 5, 3) := by decide +kernel
theorem d_Df_addField_8 : decode prog_5_method_5_code 8 = .ok (.iconst 0, 1) := by decide +kernel
theorem d_Df_addField_9 : decode prog_5_method_5_code 9 = .ok (.ireturn, 1) := by decide +kernel
theorem d_Df_addField_10 : decode prog_5_method_5_code 10 = .ok (.aload_n 0, 1) := by decide +kernel
theorem d_Df_addField_11 : decode prog_5_method_5_code 11 = .ok (.getfield 22, 3) := by decide +kernel
theorem d_Df_addField_14 : decode prog_5_method_5_code 14 = .ok (.aload_n 0, 1) := by decide +kernel
theorem d_Df_addField_15 : decode prog_5_method_5_code 15 = .ok (.getfield 25, 3) := by decide +kernel
theorem d_Df_addField_18 : decode prog_5_method_5_code 18 = .ok (.iconst 3, 1) := by decide +kernel
theorem d_Df_addField_19 : decode prog_5_method_5_code 19 = .ok (.imul, 1) := by decide +kernel
theorem d_Df_addField_20 : decode prog_5_method_5_code 20 = .ok (.iload_n 1, 1) := by decide +kernel
theorem d_Df_addField_21 : decode prog_5_method_5_code 21 = .ok (.iastore, 1) := by decide +kernel
theorem d_Df_addField_22 : decode prog_5_method_5_code 22 = .ok (.aload_n 0, 1) := by decide +kernel
theorem d_Df_addField_23 : decode prog_5_method_5_code 23 = .ok (.getfield 22, 3) := by decide +kernel
theorem d_Df_addField_26 : decode prog_5_method_5_code 26 = .ok (.aload_n 0, 1) := by decide +kernel
theorem d_Df_addField_27 : decode prog_5_method_5_code 27 = .ok (.getfield 25, 3) := by decide +kernel
theorem d_Df_addField_30 : decode prog_5_method_5_code 30 = .ok (.iconst 3, 1) := by decide +kernel
theorem d_Df_addField_31 : decode prog_5_method_5_code 31 = .ok (.imul, 1) := by decide +kernel
theorem d_Df_addField_32 : decode prog_5_method_5_code 32 = .ok (.iconst 1, 1) := by decide +kernel
theorem d_Df_addField_33 : decode prog_5_method_5_code 33 = .ok (.iadd, 1) := by decide +kernel
theorem d_Df_addField_34 : decode prog_5_method_5_code 34 = .ok (.iload_n 2, 1) := by decide +kernel
theorem d_Df_addField_35 : decode prog_5_method_5_code 35 = .ok (.iastore, 1) := by decide +kernel
theorem d_Df_addField_36 : decode prog_5_method_5_code 36 = .ok (.aload_n 0, 1) := by decide +kernel
theorem d_Df_addField_37 : decode prog_5_method_5_code 37 = .ok (.getfield 22, 3) := by decide +kernel
theorem d_Df_addField_40 : decode prog_5_method_5_code 40 = .ok (.aload_n 0, 1) := by decide +kernel
theorem d_Df_addField_41 : decode prog_5_method_5_code 41 = .ok (.getfield 25, 3) := by decide +kernel
theorem d_Df_addField_44 : decode prog_5_method_5_code 44 = .ok (.iconst 3, 1) := by decide +kernel
theorem d_Df_addField_45 : decode prog_5_method_5_code 45 = .ok (.imul, 1) := by decide +kernel
theorem d_Df_addField_46 : decode prog_5_method_5_code 46 = .ok (.iconst 2, 1) := by decide +kernel
theorem d_Df_addField_47 : decode prog_5_method_5_code 47 = .ok (.iadd, 1) := by decide +kernel
theorem d_Df_addField_48 : decode prog_5_method_5_code 48 = .ok (.iload_n 3, 1) := by decide +kernel
theorem d_Df_addField_49 : decode prog_5_method_5_code 49 = .ok (.iastore, 1) := by decide +kernel
theorem d_Df_addField_50 : decode prog_5_method_5_code 50 = .ok (.aload_n 0, 1) := by decide +kernel
theorem d_Df_addField_51 : decode prog_5_method_5_code 51 = .ok (.dup, 1) := by decide +kernel
theorem d_Df_addField_52 : decode prog_5_method_5_code 52 = .ok (.getfield 25, 3) := by decide +kernel
theorem d_Df_addField_55 : decode prog_5_method_5_code 55 = .ok (.iconst 1, 1) := by decide +kernel
theorem d_Df_addField_56 : decode prog_5_method_5_code 56 = .ok (.iadd, 1) := by decide +kernel
theorem d_Df_addField_57 : decode prog_5_method_5_code 57 = .ok (.putfield 25, 3) := by decide +kernel
theorem d_Df_addField_60 : decode prog_5_method_5_code 60 = .ok (.iconst 1, 1) := by decide +kernel
theorem d_Df_addField_61 : decode prog_5_method_5_code 61 = .ok (.ireturn, 1) := by decide +kernel
theorem d_Df_addMethod_0 : decode prog_5_method_6_code 0 = .ok (.aload_n 0, 1) := by decide +kernel
theorem d_Df_addMethod_1 : decode prog_5_method_6_code 1 = .ok (.getfield 34, 3) := by decide +kernel
theorem d_Df_addMethod_4 : decode prog_5_method_6_code 4 = .ok (.iconst 4, 1) := by decide +kernel
theorem d_Df_addMethod_5 : decode prog_5_method_6_code 5 = .ok (.if_icmp .lt 5, 3) := by decide +kernel
theorem d_Df_addMethod_8 : decode prog_5_method_6_code 8 = .ok (.iconst 0, 1) := by decide +kernel
theorem d_Df_addMethod_9 : decode prog_5_method_6_code 9 = .ok (.ireturn, 1) := by decide +kernel
theorem d_Df_addMethod_10 : decode prog_5_method_6_code 10 = .ok (.aload_n 0, 1) := by decide +kernel
theorem d_Df_addMethod_11 : decode prog_5_method_6_code 11 = .ok (.getfield 30, 3) := by decide +kernel
theorem d_Df_addMethod_14 : decode prog_5_method_6_code 14 = .ok (.aload_n 0, 1) := by decide +kernel
theorem d_Df_addMethod_15 : decode prog_5_method_6_code 15 = .ok (.getfield 34, 3) := by decide +kernel
theorem d_Df_addMethod_18 : decode prog_5_method_6_code 18 = .ok (.aaload, 1) := by decide +kernel
theorem d_Df_addMethod_19 : decode prog_5_method_6_code 19 = .ok (.astore_n 3, 1) := by decide +kernel
theorem d_Df_addMethod_20 : decode prog_5_method_6_code 20 = .ok (.aload_n 3, 1) := by decide +kernel
theorem d_Df_addMethod_21 : decode prog_5_method_6_code 21 = .ok (.iload_n 1, 1) := by decide +kernel
theorem d_Df_addMethod_22 : decode prog_5_method_6_code 22 = .ok (.putfield 51, 3) := by decide +kernel
theorem d_Df_addMethod_25 : decode prog_5_method_6_code 25 = .ok (.aload_n 3, 1) := by decide +kernel
theorem d_Df_addMethod_26 : decode prog_5_method_6_code 26 = .ok (.iload_n 2, 1) := by decide +kernel
theorem d_Df_addMethod_27 : decode prog_5_method_6_code 27 = .ok (.putfield 54, 3) := by decide +kernel
theorem d_Df_addMethod_30 : decode prog_5_method_6_code 30 = .ok (.aload_n 3, 1) := by decide +kernel
theorem d_Df_addMethod_31 : decode prog_5_method_6_code 31 = .ok (.getfield 57, 3) := by decide +kernel
theorem d_Df_addMethod_34 : decode prog_5_method_6_code 34 = .ok (.invokevirtual 61, 3) := by decide +kernel
theorem d_Df_addMethod_37 : decode prog_5_method_6_code 37 = .ok (.aload_n 0, 1) := by decide +kernel
theorem d_Df_addMethod_38 : decode prog_5_method_6_code 38 = .ok (.dup, 1) := by decide +kernel
theorem d_Df_addMethod_39 : decode prog_5_method_6_code 39 = .ok (.getfield 34, 3) := by decide +kernel
theorem d_Df_addMethod_42 : decode prog_5_method_6_code 42 = .ok (.iconst 1, 1) := by decide +kernel
theorem d_Df_addMethod_43 : decode prog_5_method_6_code 43 = .ok (.iadd, 1) := by decide +kernel
theorem d_Df_addMethod_44 : decode prog_5_method_6_code 44 = .ok (.putfield 34, 3) := by decide +kernel
theorem d_Df_addMethod_47 : decode prog_5_method_6_code 47 = .ok (.iconst 1, 1) := by decide +kernel
theorem d_Df_addMethod_48 : decode prog_5_method_6_code 48 = .ok (.ireturn, 1) := by decide +kernel
theorem d_Df_findMethod_0 : decode prog_5_method_7_code 0 = .ok (.iconst 0, 1) := by decide +kernel
theorem d_Df_findMethod_1 : decode prog_5_method_7_code 1 = .ok (.istore_n 2, 1) := by decide +kernel
theorem d_Df_findMethod_2 : decode prog_5_method_7_code 2 = .ok (.iload_n 2, 1) := by decide +kernel
theorem d_Df_findMethod_3 : decode prog_5_method_7_code 3 = .ok (.aload_n 0, 1) := by decide +kernel
theorem d_Df_findMethod_4 : decode prog_5_method_7_code 4 = .ok (.getfield 34, 3) := by decide +kernel
theorem d_Df_findMethod_7 : decode prog_5_method_7_code 7 = .ok (.if_icmp .ge 29, 3) := by decide +kernel
theorem d_Df_findMethod_10 : decode prog_5_method_7_code 10 = .ok (.aload_n 0, 1) := by decide +kernel
theorem d_Df_findMethod_11 : decode prog_5_method_7_code 11 = .ok (.getfield 30, 3) := by decide +kernel
theorem d_Df_findMethod_14 : decode prog_5_method_7_code 14 = .ok (.iload_n 2, 1) := by decide +kernel
theorem d_Df_findMethod_15 : decode prog_5_method_7_code 15 = .ok (.aaload, 1) := by decide +kernel
theorem d_Df_findMethod_16 : decode prog_5_method_7_code 16 = .ok (.getfield 51, 3) := by decide +kernel
theorem d_Df_findMethod_19 : decode prog_5_method_7_code 19 = .ok (.iload_n 1, 1) := by decide +kernel
theorem d_Df_findMethod_20 : decode prog_5_method_7_code 20 = .ok (.if_icmp .ne 10, 3) := by decide +kernel
theorem d_Df_findMethod_23 : decode prog_5_method_7_code 23 = .ok (.aload_n 0, 1) := by decide +kernel
theorem d_Df_findMethod_24 : decode prog_5_method_7_code 24 = .ok (.getfield 30, 3) := by decide +kernel
theorem d_Df_findMethod_27 : decode prog_5_method_7_code 27 = .ok (.iload_n 2, 1) := by decide +kernel
theorem d_Df_findMethod_28 : decode prog_5_method_7_code 28 = .ok (.aaload, 1) := by decide +kernel
theorem d_Df_findMethod_29 : decode prog_5_method_7_code 29 = .ok (.areturn, 1) := by decide +kernel
theorem d_Df_findMethod_30 : decode prog_5_method_7_code 30 = .ok (.iinc 2 1, 3) := by decide +kernel
theorem d_Df_findMethod_33 : decode prog_5_method_7_code 33 = .ok (.goto (-31), 3) := by decide +kernel
theorem d_Df_findMethod_36 : decode prog_5_method_7_code 36 = .ok (.aconst_null, 1) := by decide +kernel
theorem d_Df_findMethod_37 : decode prog_5_method_7_code 37 = .ok (.areturn, 1) := by decide +kernel
theorem d_Df_hasInterface_0 : decode prog_5_method_8_code 0 = .ok (.iconst 0, 1) := by decide +kernel
theorem d_Df_hasInterface_1 : decode prog_5_method_8_code 1 = .ok (.istore_n 2, 1) := by decide +kernel
theorem d_Df_hasInterface_2 : decode prog_5_method_8_code 2 = .ok (.iload_n 2, 1) := by decide +kernel
theorem d_Df_hasInterface_3 : decode prog_5_method_8_code 3 = .ok (.aload_n 0, 1) := by decide +kernel
theorem d_Df_hasInterface_4 : decode prog_5_method_8_code 4 = .ok (.getfield 18, 3) := by decide +kernel
theorem d_Df_hasInterface_7 : decode prog_5_method_8_code 7 = .ok (.if_icmp .ge 21, 3) := by decide +kernel
theorem d_Df_hasInterface_10 : decode prog_5_method_8_code 10 = .ok (.aload_n 0, 1) := by decide +kernel
theorem d_Df_hasInterface_11 : decode prog_5_method_8_code 11 = .ok (.getfield 15, 3) := by decide +kernel
theorem d_Df_hasInterface_14 : decode prog_5_method_8_code 14 = .ok (.iload_n 2, 1) := by decide +kernel
theorem d_Df_hasInterface_15 : decode prog_5_method_8_code 15 = .ok (.iaload, 1) := by decide +kernel
theorem d_Df_hasInterface_16 : decode prog_5_method_8_code 16 = .ok (.iload_n 1, 1) := by decide +kernel
theorem d_Df_hasInterface_17 : decode prog_5_method_8_code 17 = .ok (.if_icmp .ne 5, 3) := by decide +kernel
theorem d_Df_hasInterface_20 : decode prog_5_method_8_code 20 = .ok (.iconst 1, 1) := by decide +kernel
theorem d_Df_hasInterface_21 : decode prog_5_method_8_code 21 = .ok (.ireturn, 1) := by decide +kernel
theorem d_Df_hasInterface_22 : decode prog_5_method_8_code 22 = .ok (.iinc 2 1, 3) := by decide +kernel
theorem d_Df_hasInterface_25 : decode prog_5_method_8_code 25 = .ok (.goto (-23), 3) := by decide +kernel
theorem d_Df_hasInterface_28 : decode prog_5_method_8_code 28 = .ok (.iconst 0, 1) := by decide +kernel
theorem d_Df_hasInterface_29 : decode prog_5_method_8_code 29 = .ok (.ireturn, 1) := by decide +kernel
theorem d_Df_hasEqualInterfaces_0 : decode prog_5_method_9_code 0 = .ok (.iconst 0, 1) := by decide +kernel
theorem d_Df_hasEqualInterfaces_1 : decode prog_5_method_9_code 1 = .ok (.istore_n 1, 1) := by decide +kernel
theorem d_Df_hasEqualInterfaces_2 : decode prog_5_method_9_code 2 = .ok (.iload_n 1, 1) := by decide +kernel
theorem d_Df_hasEqualInterfaces_3 : decode prog_5_method_9_code 3 = .ok (.aload_n 0, 1) := by decide +kernel
theorem d_Df_hasEqualInterfaces_4 : decode prog_5_method_9_code 4 = .ok (.getfield 18, 3) := by decide +kernel
theorem d_Df_hasEqualInterfaces_7 : decode prog_5_method_9_code 7 = .ok (.if_icmp .ge 39, 3) := by decide +kernel
theorem d_Df_hasEqualInterfaces_10 : decode prog_5_method_9_code 10 = .ok (.iconst 0, 1) := by decide +kernel
theorem d_Df_hasEqualInterfaces_11 : decode prog_5_method_9_code 11 = .ok (.istore_n 2, 1) := by decide +kernel
theorem d_Df_hasEqualInterfaces_12 : decode prog_5_method_9_code 12 = .ok (.iload_n 2, 1) := by decide +kernel
theorem d_Df_hasEqualInterfaces_13 : decode prog_5_method_9_code 13 = .ok (.iload_n 1, 1) := by decide +kernel
theorem d_Df_hasEqualInterfaces_14 : decode prog_5_method_9_code 14 = .ok (.if_icmp .ge 26, 3) := by decide +kernel
theorem d_Df_hasEqualInterfaces_17 : decode prog_5_method_9_code 17 = .ok (.aload_n 0, 1) := by decide +kernel
theorem d_Df_hasEqualInterfaces_18 : decode prog_5_method_9_code 18 = .ok (.getfield 15, 3) := by decide +kernel
theorem d_Df_hasEqualInterfaces_21 : decode prog_5_method_9_code 21 = .ok (.iload_n 1, 1) := by decide +kernel
theorem d_Df_hasEqualInterfaces_22 : decode prog_5_method_9_code 22 = .ok (.iaload, 1) := by decide +kernel
theorem d_Df_hasEqualInterfaces_23 : decode prog_5_method_9_code 23 = .ok (.aload_n 0, 1) := by decide +kernel
theorem d_Df_hasEqualInterfaces_24 : decode prog_5_method_9_code 24 = .ok (.getfield 15, 3) := by decide +kernel
theorem d_Df_hasEqualInterfaces_27 : decode prog_5_method_9_code 27 = .ok (.iload_n 2, 1) := by decide +kernel
theorem d_Df_hasEqualInterfaces_28 : decode prog_5_method_9_code 28 = .ok (.iaload, 1) := by decide +kernel
theorem d_Df_hasEqualInterfaces_29 : decode prog_5_method_9_code 29 = .ok (.if_icmp .ne 5, 3) := by decide +kernel
theorem d_Df_hasEqualInterfaces_32 : decode prog_5_method_9_code 32 = .ok (.iconst 1, 1) := by decide +kernel
theorem d_Df_hasEqualInterfaces_33 : decode prog_5_method_9_code 33 = .ok (.ireturn, 1) := by decide +kernel
theorem d_Df_hasEqualInterfaces_34 : decode prog_5_method_9_code 34 = .ok (.iinc 2 1, 3) := by decide +kernel
theorem d_Df_hasEqualInterfaces_37 : decode prog_5_method_9_code 37 = .ok (.goto (-25), 3) := by decide +kernel
theorem d_Df_hasEqualInterfaces_40 : decode prog_5_method_9_code 40 = .ok (.iinc 1 1, 3) := by decide +kernel
theorem d_Df_hasEqualInterfaces_43 : decode prog_5_method_9_code 43 = .ok (.goto (-41), 3) := by decide +kernel
theorem d_Df_hasEqualInterfaces_46 : decode prog_5_method_9_code 46 = .ok (.iconst 0, 1) := by decide +kernel
theorem d_Df_hasEqualInterfaces_47 : decode prog_5_method_9_code 47 = .ok (.ireturn, 1) := by decide +kernel
theorem d_Df_hasFieldsOfOneName_0 : decode prog_5_method_10_code 0 = .ok (.iconst 0, 1) := by decide +kernel
theorem d_Df_hasFieldsOfOneName_1 : decode prog_5_method_10_code 1 = .ok (.istore_n 1, 1) := by decide +kernel
theorem d_Df_hasFieldsOfOneName_2 : decode prog_5_method_10_code 2 = .ok (.iload_n 1, 1) := by decide +kernel
theorem d_Df_hasFieldsOfOneName_3 : decode prog_5_method_10_code 3 = .ok (.aload_n 0, 1) := by decide +kernel
theorem d_Df_hasFieldsOfOneName_4 : decode prog_5_method_10_code 4 = .ok (.getfield 25, 3) := by decide +kernel
theorem d_Df_hasFieldsOfOneName_7 : decode prog_5_method_10_code 7 = .ok (.if_icmp .ge 43, 3) := by decide +kernel
theorem d_Df_hasFieldsOfOneName_10 : decode prog_5_method_10_code 10 = .ok (.iconst 0, 1) := by decide +kernel
theorem d_Df_hasFieldsOfOneName_11 : decode prog_5_method_10_code 11 = .ok (.istore_n 2, 1) := by decide +kernel
theorem d_Df_hasFieldsOfOneName_12 : decode prog_5_method_10_code 12 = .ok (.iload_n 2, 1) := by decide +kernel
theorem d_Df_hasFieldsOfOneName_13 : decode prog_5_method_10_code 13 = .ok (.iload_n 1, 1) := by decide +kernel
theorem d_Df_hasFieldsOfOneName_14 : decode prog_5_method_10_code 14 = .ok (.if_icmp .ge 30, 3) := by decide +kernel
theorem d_Df_hasFieldsOfOneName_17 : decode prog_5_method_10_code 17 = .ok (.aload_n 0, 1) := by decide +kernel
theorem d_Df_hasFieldsOfOneName_18 : decode prog_5_method_10_code 18 = .ok (.getfield 22, 3) := by decide +kernel
theorem d_Df_hasFieldsOfOneName_21 : decode prog_5_method_10_code 21 = .ok (.iload_n 1, 1) := by decide +kernel
theorem d_Df_hasFieldsOfOneName_22 : decode prog_5_method_10_code 22 = .ok (.iconst 3, 1) := by decide +kernel
theorem d_Df_hasFieldsOfOneName_23 : decode prog_5_method_10_code 23 = .ok (.imul, 1) := by decide +kernel
theorem d_Df_hasFieldsOfOneName_24 : decode prog_5_method_10_code 24 = .ok (.iaload, 1) := by decide +kernel
theorem d_Df_hasFieldsOfOneName_25 : decode prog_5_method_10_code 25 = .ok (.aload_n 0, 1) := by decide +kernel
theorem d_Df_hasFieldsOfOneName_26 : decode prog_5_method_10_code 26 = .ok (.getfield 22, 3) := by decide +kernel
theorem d_Df_hasFieldsOfOneName_29 : decode prog_5_method_10_code 29 = .ok (.iload_n 2, 1) := by decide +kernel
theorem d_Df_hasFieldsOfOneName_30 : decode prog_5_method_10_code 30 = .ok (.iconst 3, 1) := by decide +kernel
theorem d_Df_hasFieldsOfOneName_31 : decode prog_5_method_10_code 31 = .ok (.imul, 1) := by decide +kernel
theorem d_Df_hasFieldsOfOneName_32 : decode prog_5_method_10_code 32 = .ok (.iaload, 1) := by decide +kernel
theorem d_Df_hasFieldsOfOneName_33 : decode prog_5_method_10_code 33 = .ok (.if_icmp .ne 5, 3) := by decide +kernel
theorem d_Df_hasFieldsOfOneName_36 : decode prog_5_method_10_code 36 = .ok (.iconst 1, 1) := by decide +kernel
theorem d_Df_hasFieldsOfOneName_37 : decode prog_5_method_10_code 37 = .ok (.ireturn, 1) := by decide +kernel
theorem d_Df_hasFieldsOfOneName_38 : decode prog_5_method_10_code 38 = .ok (.iinc 2 1, 3) := by decide +kernel
theorem d_Df_hasFieldsOfOneName_41 : decode prog_5_method_10_code 41 = .ok (.goto (-29), 3) := by decide +kernel
theorem d_Df_hasFieldsOfOneName_44 : decode prog_5_method_10_code 44 = .ok (.iinc 1 1, 3) := by decide +kernel
theorem d_Df_hasFieldsOfOneName_47 : decode prog_5_method_10_code 47 = .ok (.goto (-45), 3) := by decide +kernel
theorem d_Df_hasFieldsOfOneName_50 : decode prog_5_method_10_code 50 = .ok (.iconst 0, 1) := by decide +kernel
theorem d_Df_hasFieldsOfOneName_51 : decode prog_5_method_10_code 51 = .ok (.ireturn, 1) := by decide +kernel
theorem d_Df_hasMethodsOfOneName_0 : decode prog_5_method_11_code 0 = .ok (.iconst 0, 1) := by decide +kernel
theorem d_Df_hasMethodsOfOneName_1 : decode prog_5_method_11_code 1 = .ok (.istore_n 1, 1) := by decide +kernel
theorem d_Df_hasMethodsOfOneName_2 : decode prog_5_method_11_code 2 = .ok (.iload_n 1, 1) := by decide +kernel
theorem d_Df_hasMethodsOfOneName_3 : decode prog_5_method_11_code 3 = .ok (.aload_n 0, 1) := by decide +kernel
theorem d_Df_hasMethodsOfOneName_4 : decode prog_5_method_11_code 4 = .ok (.getfield 34, 3) := by decide +kernel
theorem d_Df_hasMethodsOfOneName_7 : decode prog_5_method_11_code 7 = .ok (.if_icmp .ge 45, 3) := by decide +kernel
theorem d_Df_hasMethodsOfOneName_10 : decode prog_5_method_11_code 10 = .ok (.iconst 0, 1) := by decide +kernel
theorem d_Df_hasMethodsOfOneName_11 : decode prog_5_method_11_code 11 = .ok (.istore_n 2, 1) := by decide +kernel
theorem d_Df_hasMethodsOfOneName_12 : decode prog_5_method_11_code 12 = .ok (.iload_n 2, 1) := by decide +kernel
theorem d_Df_hasMethodsOfOneName_13 : decode prog_5_method_11_code 13 = .ok (.iload_n 1, 1) := by decide +kernel
theorem d_Df_hasMethodsOfOneName_14 : decode prog_5_method_11_code 14 = .ok (.if_icmp .ge 32, 3) := by decide +kernel
theorem d_Df_hasMethodsOfOneName_17 : decode prog_5_method_11_code 17 = .ok (.aload_n 0, 1) := by decide +kernel
theorem d_Df_hasMethodsOfOneName_18 : decode prog_5_method_11_code 18 = .ok (.getfield 30, 3) := by decide +kernel
theorem d_Df_hasMethodsOfOneName_21 : decode prog_5_method_11_code 21 = .ok (.iload_n 1, 1) := by decide +kernel
theorem d_Df_hasMethodsOfOneName_22 : decode prog_5_method_11_code 22 = .ok (.aaload, 1) := by decide +kernel
theorem d_Df_hasMethodsOfOneName_23 : decode prog_5_method_11_code 23 = .ok (.getfield 51, 3) := by decide +kernel
theorem d_Df_hasMethodsOfOneName_26 : decode prog_5_method_11_code 26 = .ok (.aload_n 0, 1) := by decide +kernel
theorem d_Df_hasMethodsOfOneName_27 : decode prog_5_method_11_code 27 = .ok (.getfield 30, 3) := by decide +kernel
theorem d_Df_hasMethodsOfOneName_30 : decode prog_5_method_11_code 30 = .ok (.iload_n 2, 1) := by decide +kernel
theorem d_Df_hasMethodsOfOneName_31 : decode prog_5_method_11_code 31 = .ok (.aaload, 1) := by decide +kernel
theorem d_Df_hasMethodsOfOneName_32 : decode prog_5_method_11_code 32 = .ok (.getfield 51, 3) := by decide +kernel
theorem d_Df_hasMethodsOfOneName_35 : decode prog_5_method_11_code 35 = .ok (.if_icmp .ne 5, 3) := by decide +kernel
theorem d_Df_hasMethodsOfOneName_38 : decode prog_5_method_11_code 38 = .ok (.iconst 1, 1) := by decide +kernel
theorem d_Df_hasMethodsOfOneName_39 : decode prog_5_method_11_code 39 = .ok (.ireturn, 1) := by decide +kernel
theorem d_Df_hasMethodsOfOneName_40 : decode prog_5_method_11_code 40 = .ok (.iinc 2 1, 3) := by decide +kernel
theorem d_Df_hasMethodsOfOneName_43 : decode prog_5_method_11_code 43 = .ok (.goto (-31), 3) := by decide +kernel
theorem d_Df_hasMethodsOfOneName_46 : decode prog_5_method_11_code 46 = .ok (.iinc 1 1, 3) := by decide +kernel
theorem d_Df_hasMethodsOfOneName_49 : decode prog_5_method_11_code 49 = .ok (.goto (-47), 3) := by decide +kernel
theorem d_Df_hasMethodsOfOneName_52 : decode prog_5_method_11_code 52 = .ok (.iconst 0, 1) := by decide +kernel
theorem d_Df_hasMethodsOfOneName_53 : decode prog_5_method_11_code 53 = .ok (.ireturn, 1) := by decide +kernel
theorem d_Df_hasFieldsOf_0 : decode prog_5_method_12_code 0 = .ok (.aload_n 0, 1) := by decide +kernel
theorem d_Df_hasFieldsOf_1 : decode prog_5_method_12_code 1 = .ok (.getfield 25, 3) := by decide +kernel
theorem d_Df_hasFieldsOf_4 : decode prog_5_method_12_code 4 = .ok (.aload_n 1, 1) := by decide +kernel
theorem d_Df_hasFieldsOf_5 : decode prog_5_method_12_code 5 = .ok (.getfield 25, 3) := by decide +kernel
theorem d_Df_hasFieldsOf_8 : decode prog_5_method_12_code 8 = .ok (.if_icmp .eq 5, 3) := by decide +kernel
theorem d_Df_hasFieldsOf_11 : decode prog_5_method_12_code 11 = .ok (.iconst 0, 1) := by decide +kernel
theorem d_Df_hasFieldsOf_12 : decode prog_5_method_12_code 12 = .ok (.ireturn, 1) := by decide +kernel
theorem d_Df_hasFieldsOf_13 : decode prog_5_method_12_code 13 = .ok (.iconst 0, 1) := by decide +kernel
theorem d_Df_hasFieldsOf_14 : decode prog_5_method_12_code 14 = .ok (.istore_n 2, 1) := by decide +kernel
theorem d_Df_hasFieldsOf_15 : decode prog_5_method_12_code 15 = .ok (.iload_n 2, 1) := by decide +kernel
theorem d_Df_hasFieldsOf_16 : decode prog_5_method_12_code 16 = .ok (.aload_n 0, 1) := by decide +kernel
theorem d_Df_hasFieldsOf_17 : decode prog_5_method_12_code 17 = .ok (.getfield 25, 3) := by decide +kernel
theorem d_Df_hasFieldsOf_20 : decode prog_5_method_12_code 20 = .ok (.iconst 3, 1) := by decide +kernel
theorem d_Df_hasFieldsOf_21 : decode prog_5_method_12_code 21 = .ok (.imul, 1) := by decide +kernel
theorem d_Df_hasFieldsOf_22 : decode prog_5_method_12_code 22 = .ok (.if_icmp .ge 26, 3) := by decide +kernel
theorem d_Df_hasFieldsOf_25 : decode prog_5_method_12_code 25 = .ok (.aload_n 0, 1) := by decide +kernel
theorem d_Df_hasFieldsOf_26 : decode prog_5_method_12_code 26 = .ok (.getfield 22, 3) := by decide +kernel
theorem d_Df_hasFieldsOf_29 : decode prog_5_method_12_code 29 = .ok (.iload_n 2, 1) := by decide +kernel
theorem d_Df_hasFieldsOf_30 : decode prog_5_method_12_code 30 = .ok (.iaload, 1) := by decide +kernel
theorem d_Df_hasFieldsOf_31 : decode prog_5_method_12_code 31 = .ok (.aload_n 1, 1) := by decide +kernel
theorem d_Df_hasFieldsOf_32 : decode prog_5_method_12_code 32 = .ok (.getfield 22, 3) := by decide +kernel
theorem d_Df_hasFieldsOf_35 : decode prog_5_method_12_code 35 = .ok (.iload_n 2, 1) := by decide +kernel
theorem d_Df_hasFieldsOf_36 : decode prog_5_method_12_code 36 = .ok (.iaload, 1) := by decide +kernel
theorem d_Df_hasFieldsOf_37 : decode prog_5_method_12_code 37 = .ok (.if_icmp .eq 5, 3) := by decide +kernel
theorem d_Df_hasFieldsOf_40 : decode prog_5_method_12_code 40 = .ok (.iconst 0, 1) := by decide +kernel
theorem d_Df_hasFieldsOf_41 : decode prog_5_method_12_code 41 = .ok (.ireturn, 1) := by decide +kernel
theorem d_Df_hasFieldsOf_42 : decode prog_5_method_12_code 42 = .ok (.iinc 2 1, 3) := by decide +kernel
theorem d_Df_hasFieldsOf_45 : decode prog_5_method_12_code 45 = .ok (.goto (-30), 3) := by decide +kernel
theorem d_Df_hasFieldsOf_48 : decode prog_5_method_12_code 48 = .ok (.iconst 1, 1) := by decide +kernel
theorem d_Df_hasFieldsOf_49 : decode prog_5_method_12_code 49 = .ok (.ireturn, 1) := by decide +kernel
theorem d_Df_hasInterfacesOf_0 : decode prog_5_method_13_code 0 = .ok (.aload_n 0, 1) := by decide +kernel
theorem d_Df_hasInterfacesOf_1 : decode prog_5_method_13_code 1 = .ok (.getfield 18, 3) := by decide +kernel
theorem d_Df_hasInterfacesOf_4 : decode prog_5_method_13_code 4 = .ok (.aload_n 1, 1) := by decide +kernel
theorem d_Df_hasInterfacesOf_5 : decode prog_5_method_13_code 5 = .ok (.getfield 18, 3) := by decide +kernel
theorem d_Df_hasInterfacesOf_8 : decode prog_5_method_13_code 8 = .ok (.if_icmp .eq 5, 3) := by decide +kernel
theorem d_Df_hasInterfacesOf_11 : decode prog_5_method_13_code 11 = .ok (.iconst 0, 1) := by decide +kernel
theorem d_Df_hasInterfacesOf_12 : decode prog_5_method_13_code 12 = .ok (.ireturn, 1) := by decide +kernel
theorem d_Df_hasInterfacesOf_13 : decode prog_5_method_13_code 13 = .ok (.iconst 0, 1) := by decide +kernel
theorem d_Df_hasInterfacesOf_14 : decode prog_5_method_13_code 14 = .ok (.istore_n 2, 1) := by decide +kernel
theorem d_Df_hasInterfacesOf_15 : decode prog_5_method_13_code 15 = .ok (.iload_n 2, 1) := by decide +kernel
theorem d_Df_hasInterfacesOf_16 : decode prog_5_method_13_code 16 = .ok (.aload_n 0, 1) := by decide +kernel
theorem d_Df_hasInterfacesOf_17 : decode prog_5_method_13_code 17 = .ok (.getfield 18, 3) := by decide +kernel
theorem d_Df_hasInterfacesOf_20 : decode prog_5_method_13_code 20 = .ok (.if_icmp .ge 24, 3) := by decide +kernel
theorem d_Df_hasInterfacesOf_23 : decode prog_5_method_13_code 23 = .ok (.aload_n 1, 1) := by decide +kernel
theorem d_Df_hasInterfacesOf_24 : decode prog_5_method_13_code 24 = .ok (.aload_n 0, 1) := by decide +kernel
theorem d_Df_hasInterfacesOf_25 : decode prog_5_method_13_code 25 = .ok (.getfield 15, 3) := by decide +kernel
theorem d_Df_hasInterfacesOf_28 : decode prog_5_method_13_code 28 = .ok (.iload_n 2, 1) := by decide +kernel
theorem d_Df_hasInterfacesOf_29 : decode prog_5_method_13_code 29 = .ok (.iaload, 1) := by decide +kernel
theorem d_Df_hasInterfacesOf_30 : decode prog_5_method_13_code 30 = .ok (.invokevirtual 64, 3) := by decide +kernel
theorem d_Df_hasInterfacesOf_33 : decode prog_5_method_13_code 33 = .ok (.ifCond .ne 5, 3) := by decide +kernel
theorem d_Df_hasInterfacesOf_36 : decode prog_5_method_13_code 36 = .ok (.iconst 0, 1) := by decide +kernel
theorem d_Df_hasInterfacesOf_37 : decode prog_5_method_13_code 37 = .ok (.ireturn, 1) := by decide +kernel
theorem d_Df_hasInterfacesOf_38 : decode prog_5_method_13_code 38 = .ok (.iinc 2 1, 3) := by decide +kernel
theorem d_Df_hasInterfacesOf_41 : decode prog_5_method_13_code 41 = .ok (.goto (-26), 3) := by decide +kernel
theorem d_Df_hasInterfacesOf_44 : decode prog_5_method_13_code 44 = .ok (.iconst 1, 1) := by decide +kernel
theorem d_Df_hasInterfacesOf_45 : decode prog_5_method_13_code 45 = .ok (.ireturn, 1) := by decide +kernel
theorem d_Df_hasMethodNamesOf_0 : decode prog_5_method_14_code 0 = .ok (.iconst 0, 1) := by decide +kernel
theorem d_Df_hasMethodNamesOf_1 : decode prog_5_method_14_code 1 = .ok (.istore_n 2, 1) := by decide +kernel
theorem d_Df_hasMethodNamesOf_2 : decode prog_5_method_14_code 2 = .ok (.iload_n 2, 1) := by decide +kernel
theorem d_Df_hasMethodNamesOf_3 : decode prog_5_method_14_code 3 = .ok (.aload_n 1, 1) := by decide +kernel
theorem d_Df_hasMethodNamesOf_4 : decode prog_5_method_14_code 4 = .ok (.getfield 34, 3) := by decide +kernel
theorem d_Df_hasMethodNamesOf_7 : decode prog_5_method_14_code 7 = .ok (.if_icmp .ge 27, 3) := by decide +kernel
theorem d_Df_hasMethodNamesOf_10 : decode prog_5_method_14_code 10 = .ok (.aload_n 0, 1) := by decide +kernel
theorem d_Df_hasMethodNamesOf_11 : decode prog_5_method_14_code 11 = .ok (.aload_n 1, 1) := by decide +kernel
theorem d_Df_hasMethodNamesOf_12 : decode prog_5_method_14_code 12 = .ok (.getfield 30, 3) := by decide +kernel
theorem d_Df_hasMethodNamesOf_15 : decode prog_5_method_14_code 15 = .ok (.iload_n 2, 1) := by decide +kernel
theorem d_Df_hasMethodNamesOf_16 : decode prog_5_method_14_code 16 = .ok (.aaload, 1) := by decide +kernel
theorem d_Df_hasMethodNamesOf_17 : decode prog_5_method_14_code 17 = .ok (.getfield 51, 3) := by decide +kernel
theorem d_Df_hasMethodNamesOf_20 : decode prog_5_method_14_code 20 = .ok (.invokevirtual 68, 3) := by decide +kernel
theorem d_Df_hasMethodNamesOf_23 : decode prog_5_method_14_code 23 = .ok (.ifnonnull 5, 3) := by decide +kernel
theorem d_Df_hasMethodNamesOf_26 : decode prog_5_method_14_code 26 = .ok (.iconst 0, 1) := by decide +kernel
theorem d_Df_hasMethodNamesOf_27 : decode prog_5_method_14_code 27 = .ok (.ireturn, 1) := by decide +kernel
theorem d_Df_hasMethodNamesOf_28 : decode prog_5_method_14_code 28 = .ok (.iinc 2 1, 3) := by decide +kernel
theorem d_Df_hasMethodNamesOf_31 : decode prog_5_method_14_code 31 = .ok (.goto (-29), 3) := by decide +kernel
theorem d_Df_hasMethodNamesOf_34 : decode prog_5_method_14_code 34 = .ok (.iconst 1, 1) := by decide +kernel
theorem d_Df_hasMethodNamesOf_35 : decode prog_5_method_14_code 35 = .ok (.ireturn, 1) := by decide +kernel
theorem d_Df_hasMethodFlagsOf_0 : decode prog_5_method_15_code 0 = .ok (.iconst 0, 1) := by decide +kernel
theorem d_Df_hasMethodFlagsOf_1 : decode prog_5_method_15_code 1 = .ok (.istore_n 2, 1) := by decide +kernel
theorem d_Df_hasMethodFlagsOf_2 : decode prog_5_method_15_code 2 = .ok (.iload_n 2, 1) := by decide +kernel
theorem d_Df_hasMethodFlagsOf_3 : decode prog_5_method_15_code 3 = .ok (.aload_n 1, 1) := by decide +kernel
theorem d_Df_hasMethodFlagsOf_4 : decode prog_5_method_15_code 4 = .ok (.getfield 34, 3) := by decide +kernel
theorem d_Df_hasMethodFlagsOf_7 : decode prog_5_method_15_code 7 = .ok (.if_icmp .ge 45, 3) := by decide +kernel
theorem d_Df_hasMethodFlagsOf_10 : decode prog_5_method_15_code 10 = .ok (.aload_n 0, 1) := by decide +kernel
theorem d_Df_hasMethodFlagsOf_11 : decode prog_5_method_15_code 11 = .ok (.aload_n 1, 1) := by decide +kernel
theorem d_Df_hasMethodFlagsOf_12 : decode prog_5_method_15_code 12 = .ok (.getfield 30, 3) := by decide +kernel
theorem d_Df_hasMethodFlagsOf_15 : decode prog_5_method_15_code 15 = .ok (.iload_n 2, 1) := by decide +kernel
theorem d_Df_hasMethodFlagsOf_16 : decode prog_5_method_15_code 16 = .ok (.aaload, 1) := by decide +kernel
theorem d_Df_hasMethodFlagsOf_17 : decode prog_5_method_15_code 17 = .ok (.getfield 51, 3) := by decide +kernel
theorem d_Df_hasMethodFlagsOf_20 : decode prog_5_method_15_code 20 = .ok (.invokevirtual 68, 3) := by decide +kernel
theorem d_Df_hasMethodFlagsOf_23 : decode prog_5_method_15_code 23 = .ok (.astore_n 3, 1) := by decide +kernel
theorem d_Df_hasMethodFlagsOf_24 : decode prog_5_method_15_code 24 = .ok (.aload_n 3, 1) := by decide +kernel
theorem d_Df_hasMethodFlagsOf_25 : decode prog_5_method_15_code 25 = .ok (.ifnull 21, 3) := by decide +kernel
theorem d_Df_hasMethodFlagsOf_28 : decode prog_5_method_15_code 28 = .ok (.aload_n 3, 1) := by decide +kernel
theorem d_Df_hasMethodFlagsOf_29 : decode prog_5_method_15_code 29 = .ok (.getfield 54, 3) := by decide +kernel
theorem d_Df_hasMethodFlagsOf_32 : decode prog_5_method_15_code 32 = .ok (.aload_n 1, 1) := by decide +kernel
theorem d_Df_hasMethodFlagsOf_33 : decode prog_5_method_15_code 33 = .ok (.getfield 30, 3) := by decide +kernel
theorem d_Df_hasMethodFlagsOf_36 : decode prog_5_method_15_code 36 = .ok (.iload_n 2, 1) := by decide +kernel
theorem d_Df_hasMethodFlagsOf_37 : decode prog_5_method_15_code 37 = .ok (.aaload, 1) := by decide +kernel
theorem d_Df_hasMethodFlagsOf_38 : decode prog_5_method_15_code 38 = .ok (.getfield 54, 3) := by decide +kernel
theorem d_Df_hasMethodFlagsOf_41 : decode prog_5_method_15_code 41 = .ok (.if_icmp .eq 5, 3) := by decide +kernel
theorem d_Df_hasMethodFlagsOf_44 : decode prog_5_method_15_code 44 = .ok (.iconst 0, 1) := by decide +kernel
theorem d_Df_hasMethodFlagsOf_45 : decode prog_5_method_15_code 45 = .ok (.ireturn, 1) := by decide +kernel
theorem d_Df_hasMethodFlagsOf_46 : decode prog_5_method_15_code 46 = .ok (.iinc 2 1, 3) := by decide +kernel
theorem d_Df_hasMethodFlagsOf_49 : decode prog_5_method_15_code 49 = .ok (.goto (-47), 3) := by decide +kernel
theorem d_Df_hasMethodFlagsOf_52 : decode prog_5_method_15_code 52 = .ok (.iconst 1, 1) := by decide +kernel
theorem d_Df_hasMethodFlagsOf_53 : decode prog_5_method_15_code 53 = .ok (.ireturn, 1) := by decide +kernel
theorem d_Fr_init_0 : decode prog_6_method_1_code 0 = .ok (.aload_n 0, 1) := by decide +kernel
theorem d_Fr_init_1 : decode prog_6_method_1_code 1 = .ok (.invokespecial 3, 3) := by decide +kernel
theorem d_Fr_init_4 : decode prog_6_method_1_code 4 = .ok (.aload_n 0, 1) := by decide +kernel
theorem d_Fr_init_5 : decode prog_6_method_1_code 5 = .ok (.iconst (-1), 1) := by decide +kernel
theorem d_Fr_init_6 : decode prog_6_method_1_code 6 = .ok (.putfield 9, 3) := by decide +kernel
theorem d_Fr_init_9 : decode prog_6_method_1_code 9 = .ok (.aload_n 0, 1) := by decide +kernel
theorem d_Fr_init_10 : decode prog_6_method_1_code 10 = .ok (.iconst 0, 1) := by decide +kernel
theorem d_Fr_init_11 : decode prog_6_method_1_code 11 = .ok (.putfield 15, 3) := by decide +kernel
theorem d_Fr_init_14 : decode prog_6_method_1_code 14 = .ok (.aload_n 0, 1) := by decide +kernel
theorem d_Fr_init_15 : decode prog_6_method_1_code 15 = .ok (.new 18, 3) := by decide +kernel
theorem d_Fr_init_18 : decode prog_6_method_1_code 18 = .ok (.dup, 1) := by decide +kernel
theorem d_Fr_init_19 : decode prog_6_method_1_code 19 = .ok (.invokespecial 20, 3) := by decide +kernel
theorem d_Fr_init_22 : decode prog_6_method_1_code 22 = .ok (.putfield 21, 3) := by decide +kernel
theorem d_Fr_init_25 : decode prog_6_method_1_code 25 = .ok (.aload_n 0, 1) := by decide +kernel
theorem d_Fr_init_26 : decode prog_6_method_1_code 26 = .ok (.iconst 0, 1) := by decide +kernel
theorem d_Fr_init_27 : decode prog_6_method_1_code 27 = .ok (.putfield 25, 3) := by decide +kernel
theorem d_Fr_init_30 : decode prog_6_method_1_code 30 = .ok (.aload_n 0, 1) := by decide +kernel
theorem d_Fr_init_31 : decode prog_6_method_1_code 31 = .ok (.iconst 0, 1) := by decide +kernel
theorem d_Fr_init_32 : decode prog_6_method_1_code 32 = .ok (.putfield 28, 3) := by decide +kernel
theorem d_Fr_init_35 : decode prog_6_method_1_code 35 = .ok (.return_, 1) := by decide +kernel
theorem d_Fr_begin_0 : decode prog_6_method_2_code 0 = .ok (.aload_n 0, 1) := by decide +kernel
theorem d_Fr_begin_1 : decode prog_6_method_2_code 1 = .ok (.iload_n 1, 1) := by decide +kernel
theorem d_Fr_begin_2 : decode prog_6_method_2_code 2 = .ok (.putfield 9, 3) := by decide +kernel
theorem d_Fr_begin_5 : decode prog_6_method_2_code 5 = .ok (.aload_n 0, 1) := by decide +kernel
theorem d_Fr_begin_6 : decode prog_6_method_2_code 6 = .ok (.iload_n 2, 1) := by decide +kernel
theorem d_Fr_begin_7 : decode prog_6_method_2_code 7 = .ok (.putfield 15, 3) := by decide +kernel
theorem d_Fr_begin_10 : decode prog_6_method_2_code 10 = .ok (.aload_n 0, 1) := by decide +kernel
theorem d_Fr_begin_11 : decode prog_6_method_2_code 11 = .ok (.getfield 21, 3) := by decide +kernel
theorem d_Fr_begin_14 : decode prog_6_method_2_code 14 = .ok (.aload_n 3, 1) := by decide +kernel
theorem d_Fr_begin_15 : decode prog_6_method_2_code 15 = .ok (.invokevirtual 31, 3) := by decide +kernel
theorem d_Fr_begin_18 : decode prog_6_method_2_code 18 = .ok (.aload_n 0, 1) := by decide +kernel
theorem d_Fr_begin_19 : decode prog_6_method_2_code 19 = .ok (.iconst 0, 1) := by decide +kernel
theorem d_Fr_begin_20 : decode prog_6_method_2_code 20 = .ok (.putfield 25, 3) := by decide +kernel
theorem d_Fr_begin_23 : decode prog_6_method_2_code 23 = .ok (.aload_n 0, 1) := by decide +kernel
theorem d_Fr_begin_24 : decode prog_6_method_2_code 24 = .ok (.iconst 0, 1) := by decide +kernel
theorem d_Fr_begin_25 : decode prog_6_method_2_code 25 = .ok (.putfield 28, 3) := by decide +kernel
theorem d_Fr_begin_28 : decode prog_6_method_2_code 28 = .ok (.return_, 1) := by decide +kernel
theorem d_Lc_init_0 : decode prog_7_method_1_code 0 = .ok (.aload_n 0, 1) := by decide +kernel
theorem d_Lc_init_1 : decode prog_7_method_1_code 1 = .ok (.invokespecial 1, 3) := by decide +kernel
theorem d_Lc_init_4 : decode prog_7_method_1_code 4 = .ok (.aload_n 0, 1) := by decide +kernel
theorem d_Lc_init_5 : decode prog_7_method_1_code 5 = .ok (.iconst 0, 1) := by decide +kernel
theorem d_Lc_init_6 : decode prog_7_method_1_code 6 = .ok (.putfield 7, 3) := by decide +kernel
theorem d_Lc_init_9 : decode prog_7_method_1_code 9 = .ok (.aload_n 0, 1) := by decide +kernel
theorem d_Lc_init_10 : decode prog_7_method_1_code 10 = .ok (.new 13, 3) := by decide +kernel
theorem d_Lc_init_13 : decode prog_7_method_1_code 13 = .ok (.dup, 1) := by decide +kernel
theorem d_Lc_init_14 : decode prog_7_method_1_code 14 = .ok (.invokespecial 15, 3) := by decide +kernel
theorem d_Lc_init_17 : decode prog_7_method_1_code 17 = .ok (.putfield 16, 3) := by decide +kernel
theorem d_Lc_init_20 : decode prog_7_method_1_code 20 = .ok (.aload_n 0, 1) := by decide +kernel
theorem d_Lc_init_21 : decode prog_7_method_1_code 21 = .ok (.new 13, 3) := by decide +kernel
theorem d_Lc_init_24 : decode prog_7_method_1_code 24 = .ok (.dup, 1) := by decide +kernel
theorem d_Lc_init_25 : decode prog_7_method_1_code 25 = .ok (.invokespecial 15, 3) := by decide +kernel
theorem d_Lc_init_28 : decode prog_7_method_1_code 28 = .ok (.putfield 20, 3) := by decide +kernel
theorem d_Lc_init_31 : decode prog_7_method_1_code 31 = .ok (.return_, 1) := by decide +kernel
theorem d_Lc_addEdition_0 : decode prog_7_method_2_code 0 = .ok (.aload_n 0, 1) := by decide +kernel
theorem d_Lc_addEdition_1 : decode prog_7_method_2_code 1 = .ok (.getfield 16, 3) := by decide +kernel
theorem d_Lc_addEdition_4 : decode prog_7_method_2_code 4 = .ok (.aload_n 1, 1) := by decide +kernel
theorem d_Lc_addEdition_5 : decode prog_7_method_2_code 5 = .ok (.invokevirtual 23, 3) := by decide +kernel
theorem d_Lc_addEdition_8 : decode prog_7_method_2_code 8 = .ok (.aload_n 0, 1) := by decide +kernel
theorem d_Lc_addEdition_9 : decode prog_7_method_2_code 9 = .ok (.dup, 1) := by decide +kernel
theorem d_Lc_addEdition_10 : decode prog_7_method_2_code 10 = .ok (.getfield 7, 3) := by decide +kernel
theorem d_Lc_addEdition_13 : decode prog_7_method_2_code 13 = .ok (.iconst 1, 1) := by decide +kernel
theorem d_Lc_addEdition_14 : decode prog_7_method_2_code 14 = .ok (.iadd, 1) := by decide +kernel
theorem d_Lc_addEdition_15 : decode prog_7_method_2_code 15 = .ok (.putfield 7, 3) := by decide +kernel
theorem d_Lc_addEdition_18 : decode prog_7_method_2_code 18 = .ok (.return_, 1) := by decide +kernel
theorem d_Mt_init_0 : decode prog_8_method_1_code 0 = .ok (.aload_n 0, 1) := by decide +kernel
theorem d_Mt_init_1 : decode prog_8_method_1_code 1 = .ok (.invokespecial 1, 3) := by decide +kernel
theorem d_Mt_init_4 : decode prog_8_method_1_code 4 = .ok (.aload_n 0, 1) := by decide +kernel
theorem d_Mt_init_5 : decode prog_8_method_1_code 5 = .ok (.iconst 0, 1) := by decide +kernel
theorem d_Mt_init_6 : decode prog_8_method_1_code 6 = .ok (.putfield 7, 3) := by decide +kernel
theorem d_Mt_init_9 : decode prog_8_method_1_code 9 = .ok (.aload_n 0, 1) := by decide +kernel
theorem d_Mt_init_10 : decode prog_8_method_1_code 10 = .ok (.iconst 0, 1) := by decide +kernel
theorem d_Mt_init_11 : decode prog_8_method_1_code 11 = .ok (.putfield 13, 3) := by decide +kernel
theorem d_Mt_init_14 : decode prog_8_method_1_code 14 = .ok (.aload_n 0, 1) := by decide +kernel
theorem d_Mt_init_15 : decode prog_8_method_1_code 15 = .ok (.new 16, 3) := by decide +kernel
theorem d_Mt_init_18 : decode prog_8_method_1_code 18 = .ok (.dup, 1) := by decide +kernel
theorem d_Mt_init_19 : decode prog_8_method_1_code 19 = .ok (.invokespecial 18, 3) := by decide +kernel
theorem d_Mt_init_22 : decode prog_8_method_1_code 22 = .ok (.putfield 19, 3) := by decide +kernel
theorem d_Mt_init_25 : decode prog_8_method_1_code 25 = .ok (.return_, 1) := by decide +kernel
theorem d_Mt_become_0 : decode prog_8_method_2_code 0 = .ok (.aload_n 0, 1) := by decide +kernel
theorem d_Mt_become_1 : decode prog_8_method_2_code 1 = .ok (.aload_n 1, 1) := by decide +kernel
theorem d_Mt_become_2 : decode prog_8_method_2_code 2 = .ok (.getfield 7, 3) := by decide +kernel
theorem d_Mt_become_5 : decode prog_8_method_2_code 5 = .ok (.putfield 7, 3) := by decide +kernel
theorem d_Mt_become_8 : decode prog_8_method_2_code 8 = .ok (.aload_n 0, 1) := by decide +kernel
theorem d_Mt_become_9 : decode prog_8_method_2_code 9 = .ok (.aload_n 1, 1) := by decide +kernel
theorem d_Mt_become_10 : decode prog_8_method_2_code 10 = .ok (.getfield 13, 3) := by decide +kernel
theorem d_Mt_become_13 : decode prog_8_method_2_code 13 = .ok (.putfield 13, 3) := by decide +kernel
theorem d_Mt_become_16 : decode prog_8_method_2_code 16 = .ok (.aload_n 0, 1) := by decide +kernel
theorem d_Mt_become_17 : decode prog_8_method_2_code 17 = .ok (.getfield 19, 3) := by decide +kernel
theorem d_Mt_become_20 : decode prog_8_method_2_code 20 = .ok (.aload_n 1, 1) := by decide +kernel
theorem d_Mt_become_21 : decode prog_8_method_2_code 21 = .ok (.getfield 19, 3) := by decide +kernel
theorem d_Mt_become_24 : decode prog_8_method_2_code 24 = .ok (.invokevirtual 23, 3) := by decide +kernel
theorem d_Mt_become_27 : decode prog_8_method_2_code 27 = .ok (.return_, 1) := by decide +kernel
theorem d_Ru_firstBroken_0 : decode prog_9_method_2_code 0 = .ok (.aload_n 0, 1) := by decide +kernel
theorem d_Ru_firstBroken_1 : decode prog_9_method_2_code 1 = .ok (.aload_n 3, 1) := by decide +kernel
theorem d_Ru_firstBroken_2 : decode prog_9_method_2_code 2 = .ok (.invokestatic 9, 3) := by decide +kernel
theorem d_Ru_firstBroken_5 : decode prog_9_method_2_code 5 = .ok (.istore 4, 2) := by decide +kernel
theorem d_Ru_firstBroken_7 : decode prog_9_method_2_code 7 = .ok (.iload 4, 2) := by decide +kernel
theorem d_Ru_firstBroken_9 : decode prog_9_method_2_code 9 = .ok (.ifCond .eq 8, 3) := by decide +kernel
theorem d_Ru_firstBroken_12 : decode prog_9_method_2_code 12 = .ok (.iload 4, 2) := by decide +kernel
theorem d_Ru_firstBroken_14 : decode prog_9_method_2_code 14 = .ok (.goto 9, 3) := by decide +kernel
theorem d_Ru_firstBroken_17 : decode prog_9_method_2_code 17 = .ok (.aload_n 0, 1) := by decide +kernel
theorem d_Ru_firstBroken_18 : decode prog_9_method_2_code 18 = .ok (.iload_n 1, 1) := by decide +kernel
theorem d_Ru_firstBroken_19 : decode prog_9_method_2_code 19 = .ok (.aload_n 2, 1) := by decide +kernel
theorem d_Ru_firstBroken_20 : decode prog_9_method_2_code 20 = .ok (.invokestatic 15, 3) := by decide +kernel
theorem d_Ru_firstBroken_23 : decode prog_9_method_2_code 23 = .ok (.ireturn, 1) := by decide +kernel
theorem d_Ru_firstBrokenAlone_0 : decode prog_9_method_3_code 0 = .ok (.aload_n 0, 1) := by decide +kernel
theorem d_Ru_firstBrokenAlone_1 : decode prog_9_method_3_code 1 = .ok (.getfield 19, 3) := by decide +kernel
theorem d_Ru_firstBrokenAlone_4 : decode prog_9_method_3_code 4 = .ok (.iconst 0, 1) := by decide +kernel
theorem d_Ru_firstBrokenAlone_5 : decode prog_9_method_3_code 5 = .ok (.iaload, 1) := by decide +kernel
theorem d_Ru_firstBrokenAlone_6 : decode prog_9_method_3_code 6 = .ok (.iconst 1, 1) := by decide +kernel
theorem d_Ru_firstBrokenAlone_7 : decode prog_9_method_3_code 7 = .ok (.if_icmp .lt 14, 3) := by decide +kernel
theorem d_Ru_firstBrokenAlone_10 : decode prog_9_method_3_code 10 = .ok (.aload_n 0, 1) := by decide +kernel
theorem d_Ru_firstBrokenAlone_11 : decode prog_9_method_3_code 11 = .ok (.getfield 19, 3) := by decide +kernel
theorem d_Ru_firstBrokenAlone_14 : decode prog_9_method_3_code 14 = .ok (.iconst 0, 1) := by decide +kernel
theorem d_Ru_firstBrokenAlone_15 : decode prog_9_method_3_code 15 = .ok (.iaload, 1) := by decide +kernel
theorem d_Ru_firstBrokenAlone_16 : decode prog_9_method_3_code 16 = .ok (.bipush 9, 2) := by decide +kernel
theorem d_Ru_firstBrokenAlone_18 : decode prog_9_method_3_code 18 = .ok (.if_icmp .le 5, 3) := by decide +kernel
theorem d_Ru_firstBrokenAlone_21 : decode prog_9_method_3_code 21 = .ok (.iconst 1, 1) := by decide +kernel
theorem d_Ru_firstBrokenAlone_22 : decode prog_9_method_3_code 22 = .ok (.ireturn, 1) := by decide +kernel
theorem d_Ru_firstBrokenAlone_23 : decode prog_9_method_3_code 23 = .ok (.aload_n 0, 1) := by decide +kernel
theorem d_Ru_firstBrokenAlone_24 : decode prog_9_method_3_code 24 = .ok (.invokevirtual 25, 3) := by decide +kernel
theorem d_Ru_firstBrokenAlone_27 : decode prog_9_method_3_code 27 = .ok (.ifCond .ne 24, 3) := by decide +kernel
theorem d_Ru_firstBrokenAlone_30 : decode prog_9_method_3_code 30 = .ok (.aload_n 0, 1) := by decide +kernel
theorem d_Ru_firstBrokenAlone_31 : decode prog_9_method_3_code 31 = .ok (.invokevirtual 29, 3) := by decide +kernel
theorem d_Ru_firstBrokenAlone_34 : decode prog_9_method_3_code 34 = .ok (.ifCond .ne 17, 3) := by decide +kernel
theorem d_Ru_firstBrokenAlone_37 : decode prog_9_method_3_code 37 = .ok (.aload_n 0, 1) := by decide +kernel
theorem d_Ru_firstBrokenAlone_38 : decode prog_9_method_3_code 38 = .ok (.invokevirtual 32, 3) := by decide +kernel
theorem d_Ru_firstBrokenAlone_41 : decode prog_9_method_3_code 41 = .ok (.ifCond .ne 10, 3) := by decide +kernel
theorem d_Ru_firstBrokenAlone_44 : decode prog_9_method_3_code 44 = .ok (.aload_n 0, 1) := by decide +kernel
theorem d_Ru_firstBrokenAlone_45 : decode prog_9_method_3_code 45 = .ok (.invokestatic 35, 3) := by decide +kernel
theorem d_Ru_firstBrokenAlone_48 : decode prog_9_method_3_code 48 = .ok (.ifCond .eq 5, 3) := by decide +kernel
theorem d_Ru_firstBrokenAlone_51 : decode prog_9_method_3_code 51 = .ok (.iconst 2, 1) := by decide +kernel
theorem d_Ru_firstBrokenAlone_52 : decode prog_9_method_3_code 52 = .ok (.ireturn, 1) := by decide +kernel
theorem d_Ru_firstBrokenAlone_53 : decode prog_9_method_3_code 53 = .ok (.aload_n 0, 1) := by decide +kernel
theorem d_Ru_firstBrokenAlone_54 : decode prog_9_method_3_code 54 = .ok (.aload_n 1, 1) := by decide +kernel
theorem d_Ru_firstBrokenAlone_55 : decode prog_9_method_3_code 55 = .ok (.invokestatic 39, 3) := by decide +kernel
theorem d_Ru_firstBrokenAlone_58 : decode prog_9_method_3_code 58 = .ok (.ifCond .eq 5, 3) := by decide +kernel
theorem d_Ru_firstBrokenAlone_61 : decode prog_9_method_3_code 61 = .ok (.iconst 3, 1) := by decide +kernel
theorem d_Ru_firstBrokenAlone_62 : decode prog_9_method_3_code 62 = .ok (.ireturn, 1) := by decide +kernel
theorem d_Ru_firstBrokenAlone_63 : decode prog_9_method_3_code 63 = .ok (.aload_n 0, 1) := by decide +kernel
theorem d_Ru_firstBrokenAlone_64 : decode prog_9_method_3_code 64 = .ok (.aload_n 1, 1) := by decide +kernel
theorem d_Ru_firstBrokenAlone_65 : decode prog_9_method_3_code 65 = .ok (.invokestatic 43, 3) := by decide +kernel
theorem d_Ru_firstBrokenAlone_68 : decode prog_9_method_3_code 68 = .ok (.ifCond .ne 11, 3) := by decide +kernel
theorem d_Ru_firstBrokenAlone_71 : decode prog_9_method_3_code 71 = .ok (.aload_n 0, 1) := by decide +kernel
theorem d_Ru_firstBrokenAlone_72 : decode prog_9_method_3_code 72 = .ok (.aload_n 1, 1) := by decide +kernel
theorem d_Ru_firstBrokenAlone_73 : decode prog_9_method_3_code 73 = .ok (.invokestatic 46, 3) := by decide +kernel
theorem d_Ru_firstBrokenAlone_76 : decode prog_9_method_3_code 76 = .ok (.ifCond .eq 5, 3) := by decide +kernel
theorem d_Ru_firstBrokenAlone_79 : decode prog_9_method_3_code 79 = .ok (.iconst 4, 1) := by decide +kernel
theorem d_Ru_firstBrokenAlone_80 : decode prog_9_method_3_code 80 = .ok (.ireturn, 1) := by decide +kernel
theorem d_Ru_firstBrokenAlone_81 : decode prog_9_method_3_code 81 = .ok (.iconst 0, 1) := by decide +kernel
theorem d_Ru_firstBrokenAlone_82 : decode prog_9_method_3_code 82 = .ok (.ireturn, 1) := by decide +kernel
theorem d_Ru_firstBrokenBeside_0 : decode prog_9_method_4_code 0 = .ok (.aload_n 0, 1) := by decide +kernel
theorem d_Ru_firstBrokenBeside_1 : decode prog_9_method_4_code 1 = .ok (.getfield 19, 3) := by decide +kernel
theorem d_Ru_firstBrokenBeside_4 : decode prog_9_method_4_code 4 = .ok (.iconst 1, 1) := by decide +kernel
theorem d_Ru_firstBrokenBeside_5 : decode prog_9_method_4_code 5 = .ok (.iaload, 1) := by decide +kernel
theorem d_Ru_firstBrokenBeside_6 : decode prog_9_method_4_code 6 = .ok (.iload_n 1, 1) := by decide +kernel
theorem d_Ru_firstBrokenBeside_7 : decode prog_9_method_4_code 7 = .ok (.if_icmp .eq 5, 3) := by decide +kernel
theorem d_Ru_firstBrokenBeside_10 : decode prog_9_method_4_code 10 = .ok (.iconst 5, 1) := by decide +kernel
theorem d_Ru_firstBrokenBeside_11 : decode prog_9_method_4_code 11 = .ok (.ireturn, 1) := by decide +kernel
theorem d_Ru_firstBrokenBeside_12 : decode prog_9_method_4_code 12 = .ok (.aload_n 0, 1) := by decide +kernel
theorem d_Ru_firstBrokenBeside_13 : decode prog_9_method_4_code 13 = .ok (.getfield 19, 3) := by decide +kernel
theorem d_Ru_firstBrokenBeside_16 : decode prog_9_method_4_code 16 = .ok (.iconst 2, 1) := by decide +kernel
theorem d_Ru_firstBrokenBeside_17 : decode prog_9_method_4_code 17 = .ok (.iaload, 1) := by decide +kernel
theorem d_Ru_firstBrokenBeside_18 : decode prog_9_method_4_code 18 = .ok (.aload_n 2, 1) := by decide +kernel
theorem d_Ru_firstBrokenBeside_19 : decode prog_9_method_4_code 19 = .ok (.getfield 19, 3) := by decide +kernel
theorem d_Ru_firstBrokenBeside_22 : decode prog_9_method_4_code 22 = .ok (.iconst 2, 1) := by decide +kernel
theorem d_Ru_firstBrokenBeside_23 : decode prog_9_method_4_code 23 = .ok (.iaload, 1) := by decide +kernel
theorem d_Ru_firstBrokenBeside_24 : decode prog_9_method_4_code 24 = .ok (.if_icmp .ne 11, 3) := by decide +kernel
theorem d_Ru_firstBrokenBeside_27 : decode prog_9_method_4_code 27 = .ok (.aload_n 0, 1) := by decide +kernel
theorem d_Ru_firstBrokenBeside_28 : decode prog_9_method_4_code 28 = .ok (.aload_n 2, 1) := by decide +kernel
theorem d_Ru_firstBrokenBeside_29 : decode prog_9_method_4_code 29 = .ok (.invokevirtual 49, 3) := by decide +kernel
theorem d_Ru_firstBrokenBeside_32 : decode prog_9_method_4_code 32 = .ok (.ifCond .ne 6, 3) := by decide +kernel
theorem d_Ru_firstBrokenBeside_35 : decode prog_9_method_4_code 35 = .ok (.bipush 6, 2) := by decide +kernel
theorem d_Ru_firstBrokenBeside_37 : decode prog_9_method_4_code 37 = .ok (.ireturn, 1) := by decide +kernel
theorem d_Ru_firstBrokenBeside_38 : decode prog_9_method_4_code 38 = .ok (.aload_n 0, 1) := by decide +kernel
theorem d_Ru_firstBrokenBeside_39 : decode prog_9_method_4_code 39 = .ok (.aload_n 2, 1) := by decide +kernel
theorem d_Ru_firstBrokenBeside_40 : decode prog_9_method_4_code 40 = .ok (.invokevirtual 52, 3) := by decide +kernel
theorem d_Ru_firstBrokenBeside_43 : decode prog_9_method_4_code 43 = .ok (.ifCond .ne 6, 3) := by decide +kernel
theorem d_Ru_firstBrokenBeside_46 : decode prog_9_method_4_code 46 = .ok (.bipush 7, 2) := by decide +kernel
theorem d_Ru_firstBrokenBeside_48 : decode prog_9_method_4_code 48 = .ok (.ireturn, 1) := by decide +kernel
theorem d_Ru_firstBrokenBeside_49 : decode prog_9_method_4_code 49 = .ok (.aload_n 2, 1) := by decide +kernel
theorem d_Ru_firstBrokenBeside_50 : decode prog_9_method_4_code 50 = .ok (.aload_n 0, 1) := by decide +kernel
theorem d_Ru_firstBrokenBeside_51 : decode prog_9_method_4_code 51 = .ok (.invokevirtual 55, 3) := by decide +kernel
theorem d_Ru_firstBrokenBeside_54 : decode prog_9_method_4_code 54 = .ok (.ifCond .ne 6, 3) := by decide +kernel
theorem d_Ru_firstBrokenBeside_57 : decode prog_9_method_4_code 57 = .ok (.bipush 8, 2) := by decide +kernel
theorem d_Ru_firstBrokenBeside_59 : decode prog_9_method_4_code 59 = .ok (.ireturn, 1) := by decide +kernel
theorem d_Ru_firstBrokenBeside_60 : decode prog_9_method_4_code 60 = .ok (.aload_n 0, 1) := by decide +kernel
theorem d_Ru_firstBrokenBeside_61 : decode prog_9_method_4_code 61 = .ok (.aload_n 2, 1) := by decide +kernel
theorem d_Ru_firstBrokenBeside_62 : decode prog_9_method_4_code 62 = .ok (.invokevirtual 55, 3) := by decide +kernel
theorem d_Ru_firstBrokenBeside_65 : decode prog_9_method_4_code 65 = .ok (.ifCond .ne 6, 3) := by decide +kernel
theorem d_Ru_firstBrokenBeside_68 : decode prog_9_method_4_code 68 = .ok (.bipush 9, 2) := by decide +kernel
theorem d_Ru_firstBrokenBeside_70 : decode prog_9_method_4_code 70 = .ok (.ireturn, 1) := by decide +kernel
theorem d_Ru_firstBrokenBeside_71 : decode prog_9_method_4_code 71 = .ok (.aload_n 0, 1) := by decide +kernel
theorem d_Ru_firstBrokenBeside_72 : decode prog_9_method_4_code 72 = .ok (.getfield 19, 3) := by decide +kernel
theorem d_Ru_firstBrokenBeside_75 : decode prog_9_method_4_code 75 = .ok (.iconst 3, 1) := by decide +kernel
theorem d_Ru_firstBrokenBeside_76 : decode prog_9_method_4_code 76 = .ok (.iaload, 1) := by decide +kernel
theorem d_Ru_firstBrokenBeside_77 : decode prog_9_method_4_code 77 = .ok (.aload_n 2, 1) := by decide +kernel
theorem d_Ru_firstBrokenBeside_78 : decode prog_9_method_4_code 78 = .ok (.getfield 19, 3) := by decide +kernel
theorem d_Ru_firstBrokenBeside_81 : decode prog_9_method_4_code 81 = .ok (.iconst 3, 1) := by decide +kernel
theorem d_Ru_firstBrokenBeside_82 : decode prog_9_method_4_code 82 = .ok (.iaload, 1) := by decide +kernel
theorem d_Ru_firstBrokenBeside_83 : decode prog_9_method_4_code 83 = .ok (.if_icmp .eq 6, 3) := by decide +kernel
theorem d_Ru_firstBrokenBeside_86 : decode prog_9_method_4_code 86 = .ok (.bipush 10, 2) := by decide +kernel
theorem d_Ru_firstBrokenBeside_88 : decode prog_9_method_4_code 88 = .ok (.ireturn, 1) := by decide +kernel
theorem d_Ru_firstBrokenBeside_89 : decode prog_9_method_4_code 89 = .ok (.aload_n 0, 1) := by decide +kernel
theorem d_Ru_firstBrokenBeside_90 : decode prog_9_method_4_code 90 = .ok (.aload_n 2, 1) := by decide +kernel
theorem d_Ru_firstBrokenBeside_91 : decode prog_9_method_4_code 91 = .ok (.invokevirtual 58, 3) := by decide +kernel
theorem d_Ru_firstBrokenBeside_94 : decode prog_9_method_4_code 94 = .ok (.ifCond .ne 6, 3) := by decide +kernel
theorem d_Ru_firstBrokenBeside_97 : decode prog_9_method_4_code 97 = .ok (.bipush 11, 2) := by decide +kernel
theorem d_Ru_firstBrokenBeside_99 : decode prog_9_method_4_code 99 = .ok (.ireturn, 1) := by decide +kernel
theorem d_Ru_firstBrokenBeside_100 : decode prog_9_method_4_code 100 = .ok (.aload_n 0, 1) := by decide +kernel
theorem d_Ru_firstBrokenBeside_101 : decode prog_9_method_4_code 101 = .ok (.getfield 19, 3) := by decide +kernel
theorem d_Ru_firstBrokenBeside_104 : decode prog_9_method_4_code 104 = .ok (.iconst 4, 1) := by decide +kernel
theorem d_Ru_firstBrokenBeside_105 : decode prog_9_method_4_code 105 = .ok (.iaload, 1) := by decide +kernel
theorem d_Ru_firstBrokenBeside_106 : decode prog_9_method_4_code 106 = .ok (.aload_n 2, 1) := by decide +kernel
theorem d_Ru_firstBrokenBeside_107 : decode prog_9_method_4_code 107 = .ok (.getfield 19, 3) := by decide +kernel
theorem d_Ru_firstBrokenBeside_110 : decode prog_9_method_4_code 110 = .ok (.iconst 4, 1) := by decide +kernel
theorem d_Ru_firstBrokenBeside_111 : decode prog_9_method_4_code 111 = .ok (.iaload, 1) := by decide +kernel
theorem d_Ru_firstBrokenBeside_112 : decode prog_9_method_4_code 112 = .ok (.if_icmp .eq 6, 3) := by decide +kernel
theorem d_Ru_firstBrokenBeside_115 : decode prog_9_method_4_code 115 = .ok (.bipush 12, 2) := by decide +kernel
theorem d_Ru_firstBrokenBeside_117 : decode prog_9_method_4_code 117 = .ok (.ireturn, 1) := by decide +kernel
theorem d_Ru_firstBrokenBeside_118 : decode prog_9_method_4_code 118 = .ok (.iconst 0, 1) := by decide +kernel
theorem d_Ru_firstBrokenBeside_119 : decode prog_9_method_4_code 119 = .ok (.ireturn, 1) := by decide +kernel
theorem d_Ru_hasUnknownOp_0 : decode prog_9_method_5_code 0 = .ok (.iconst 0, 1) := by decide +kernel
theorem d_Ru_hasUnknownOp_1 : decode prog_9_method_5_code 1 = .ok (.istore_n 1, 1) := by decide +kernel
theorem d_Ru_hasUnknownOp_2 : decode prog_9_method_5_code 2 = .ok (.iload_n 1, 1) := by decide +kernel
theorem d_Ru_hasUnknownOp_3 : decode prog_9_method_5_code 3 = .ok (.aload_n 0, 1) := by decide +kernel
theorem d_Ru_hasUnknownOp_4 : decode prog_9_method_5_code 4 = .ok (.getfield 61, 3) := by decide +kernel
theorem d_Ru_hasUnknownOp_7 : decode prog_9_method_5_code 7 = .ok (.if_icmp .ge 54, 3) := by decide +kernel
theorem d_Ru_hasUnknownOp_10 : decode prog_9_method_5_code 10 = .ok (.aload_n 0, 1) := by decide +kernel
theorem d_Ru_hasUnknownOp_11 : decode prog_9_method_5_code 11 = .ok (.getfield 65, 3) := by decide +kernel
theorem d_Ru_hasUnknownOp_14 : decode prog_9_method_5_code 14 = .ok (.iload_n 1, 1) := by decide +kernel
theorem d_Ru_hasUnknownOp_15 : decode prog_9_method_5_code 15 = .ok (.aaload, 1) := by decide +kernel
theorem d_Ru_hasUnknownOp_16 : decode prog_9_method_5_code 16 = .ok (.getfield 69, 3) := by decide +kernel
theorem d_Ru_hasUnknownOp_19 : decode prog_9_method_5_code 19 = .ok (.astore_n 2, 1) := by decide +kernel
theorem d_Ru_hasUnknownOp_20 : decode prog_9_method_5_code 20 = .ok (.iconst 0, 1) := by decide +kernel
theorem d_Ru_hasUnknownOp_21 : decode prog_9_method_5_code 21 = .ok (.istore_n 3, 1) := by decide +kernel
theorem d_Ru_hasUnknownOp_22 : decode prog_9_method_5_code 22 = .ok (.iload_n 3, 1) := by decide +kernel
theorem d_Ru_hasUnknownOp_23 : decode prog_9_method_5_code 23 = .ok (.aload_n 2, 1) := by decide +kernel
theorem d_Ru_hasUnknownOp_24 : decode prog_9_method_5_code 24 = .ok (.getfield 75, 3) := by decide +kernel
theorem d_Ru_hasUnknownOp_27 : decode prog_9_method_5_code 27 = .ok (.if_icmp .ge 28, 3) := by decide +kernel
theorem d_Ru_hasUnknownOp_30 : decode prog_9_method_5_code 30 = .ok (.aload_n 2, 1) := by decide +kernel
theorem d_Ru_hasUnknownOp_31 : decode prog_9_method_5_code 31 = .ok (.iload_n 3, 1) := by decide +kernel
theorem d_Ru_hasUnknownOp_32 : decode prog_9_method_5_code 32 = .ok (.invokevirtual 80, 3) := by decide +kernel
theorem d_Ru_hasUnknownOp_35 : decode prog_9_method_5_code 35 = .ok (.ifCond .eq 14, 3) := by decide +kernel
theorem d_Ru_hasUnknownOp_38 : decode prog_9_method_5_code 38 = .ok (.aload_n 2, 1) := by decide +kernel
theorem d_Ru_hasUnknownOp_39 : decode prog_9_method_5_code 39 = .ok (.iload_n 3, 1) := by decide +kernel
theorem d_Ru_hasUnknownOp_40 : decode prog_9_method_5_code 40 = .ok (.invokevirtual 80, 3) := by decide +kernel
theorem d_Ru_hasUnknownOp_43 : decode prog_9_method_5_code 43 = .ok (.iconst 1, 1) := by decide +kernel
theorem d_Ru_hasUnknownOp_44 : decode prog_9_method_5_code 44 = .ok (.if_icmp .eq 5, 3) := by decide +kernel
theorem d_Ru_hasUnknownOp_47 : decode prog_9_method_5_code 47 = .ok (.iconst 1, 1) := by decide +kernel
theorem d_Ru_hasUnknownOp_48 : decode prog_9_method_5_code 48 = .ok (.ireturn, 1) := by decide +kernel
theorem d_Ru_hasUnknownOp_49 : decode prog_9_method_5_code 49 = .ok (.iinc 3 1, 3) := by decide +kernel
theorem d_Ru_hasUnknownOp_52 : decode prog_9_method_5_code 52 = .ok (.goto (-30), 3) := by decide +kernel
theorem d_Ru_hasUnknownOp_55 : decode prog_9_method_5_code 55 = .ok (.iinc 1 1, 3) := by decide +kernel
theorem d_Ru_hasUnknownOp_58 : decode prog_9_method_5_code 58 = .ok (.goto (-56), 3) := by decide +kernel
theorem d_Ru_hasUnknownOp_61 : decode prog_9_method_5_code 61 = .ok (.iconst 0, 1) := by decide +kernel
theorem d_Ru_hasUnknownOp_62 : decode prog_9_method_5_code 62 = .ok (.ireturn, 1) := by decide +kernel
theorem d_Ru_meetsItselfAbove_0 : decode prog_9_method_6_code 0 = .ok (.aload_n 0, 1) := by decide +kernel
theorem d_Ru_meetsItselfAbove_1 : decode prog_9_method_6_code 1 = .ok (.getfield 19, 3) := by decide +kernel
theorem d_Ru_meetsItselfAbove_4 : decode prog_9_method_6_code 4 = .ok (.iconst 2, 1) := by decide +kernel
theorem d_Ru_meetsItselfAbove_5 : decode prog_9_method_6_code 5 = .ok (.iaload, 1) := by decide +kernel
theorem d_Ru_meetsItselfAbove_6 : decode prog_9_method_6_code 6 = .ok (.istore_n 2, 1) := by decide +kernel
theorem d_Ru_meetsItselfAbove_7 : decode prog_9_method_6_code 7 = .ok (.iconst 0, 1) := by decide +kernel
theorem d_Ru_meetsItselfAbove_8 : decode prog_9_method_6_code 8 = .ok (.istore_n 3, 1) := by decide +kernel
theorem d_Ru_meetsItselfAbove_9 : decode prog_9_method_6_code 9 = .ok (.iload_n 3, 1) := by decide +kernel
theorem d_Ru_meetsItselfAbove_10 : decode prog_9_method_6_code 10 = .ok (.bipush 6, 2) := by decide +kernel
theorem d_Ru_meetsItselfAbove_12 : decode prog_9_method_6_code 12 = .ok (.if_icmp .gt 46, 3) := by decide +kernel
theorem d_Ru_meetsItselfAbove_15 : decode prog_9_method_6_code 15 = .ok (.iload_n 2, 1) := by decide +kernel
theorem d_Ru_meetsItselfAbove_16 : decode prog_9_method_6_code 16 = .ok (.aload_n 0, 1) := by decide +kernel
theorem d_Ru_meetsItselfAbove_17 : decode prog_9_method_6_code 17 = .ok (.getfield 19, 3) := by decide +kernel
theorem d_Ru_meetsItselfAbove_20 : decode prog_9_method_6_code 20 = .ok (.iconst 1, 1) := by decide +kernel
theorem d_Ru_meetsItselfAbove_21 : decode prog_9_method_6_code 21 = .ok (.iaload, 1) := by decide +kernel
theorem d_Ru_meetsItselfAbove_22 : decode prog_9_method_6_code 22 = .ok (.if_icmp .ne 5, 3) := by decide +kernel
theorem d_Ru_meetsItselfAbove_25 : decode prog_9_method_6_code 25 = .ok (.iconst 1, 1) := by decide +kernel
theorem d_Ru_meetsItselfAbove_26 : decode prog_9_method_6_code 26 = .ok (.ireturn, 1) := by decide +kernel
theorem d_Ru_meetsItselfAbove_27 : decode prog_9_method_6_code 27 = .ok (.aload_n 1, 1) := by decide +kernel
theorem d_Ru_meetsItselfAbove_28 : decode prog_9_method_6_code 28 = .ok (.iload_n 2, 1) := by decide +kernel
theorem d_Ru_meetsItselfAbove_29 : decode prog_9_method_6_code 29 = .ok (.invokevirtual 84, 3) := by decide +kernel
theorem d_Ru_meetsItselfAbove_32 : decode prog_9_method_6_code 32 = .ok (.astore 4, 2) := by decide +kernel
theorem d_Ru_meetsItselfAbove_34 : decode prog_9_method_6_code 34 = .ok (.aload 4, 2) := by decide +kernel
theorem d_Ru_meetsItselfAbove_36 : decode prog_9_method_6_code 36 = .ok (.ifnonnull 5, 3) := by decide +kernel
theorem d_Ru_meetsItselfAbove_39 : decode prog_9_method_6_code 39 = .ok (.iconst 0, 1) := by decide +kernel
theorem d_Ru_meetsItselfAbove_40 : decode prog_9_method_6_code 40 = .ok (.ireturn, 1) := by decide +kernel
theorem d_Ru_meetsItselfAbove_41 : decode prog_9_method_6_code 41 = .ok (.aload 4, 2) := by decide +kernel
theorem d_Ru_meetsItselfAbove_43 : decode prog_9_method_6_code 43 = .ok (.getfield 90, 3) := by decide +kernel
theorem d_Ru_meetsItselfAbove_46 : decode prog_9_method_6_code 46 = .ok (.getfield 19, 3) := by decide +kernel
theorem d_Ru_meetsItselfAbove_49 : decode prog_9_method_6_code 49 = .ok (.iconst 2, 1) := by decide +kernel
theorem d_Ru_meetsItselfAbove_50 : decode prog_9_method_6_code 50 = .ok (.iaload, 1) := by decide +kernel
theorem d_Ru_meetsItselfAbove_51 : decode prog_9_method_6_code 51 = .ok (.istore_n 2, 1) := by decide +kernel
theorem d_Ru_meetsItselfAbove_52 : decode prog_9_method_6_code 52 = .ok (.iinc 3 1, 3) := by decide +kernel
theorem d_Ru_meetsItselfAbove_55 : decode prog_9_method_6_code 55 = .ok (.goto (-46), 3) := by decide +kernel
theorem d_Ru_meetsItselfAbove_58 : decode prog_9_method_6_code 58 = .ok (.iconst 0, 1) := by decide +kernel
theorem d_Ru_meetsItselfAbove_59 : decode prog_9_method_6_code 59 = .ok (.ireturn, 1) := by decide +kernel
theorem d_Ru_lacksSuper_0 : decode prog_9_method_7_code 0 = .ok (.aload_n 0, 1) := by decide +kernel
theorem d_Ru_lacksSuper_1 : decode prog_9_method_7_code 1 = .ok (.getfield 19, 3) := by decide +kernel
theorem d_Ru_lacksSuper_4 : decode prog_9_method_7_code 4 = .ok (.iconst 2, 1) := by decide +kernel
theorem d_Ru_lacksSuper_5 : decode prog_9_method_7_code 5 = .ok (.iaload, 1) := by decide +kernel
theorem d_Ru_lacksSuper_6 : decode prog_9_method_7_code 6 = .ok (.iconst (-1), 1) := by decide +kernel
theorem d_Ru_lacksSuper_7 : decode prog_9_method_7_code 7 = .ok (.if_icmp .eq 20, 3) := by decide +kernel
theorem d_Ru_lacksSuper_10 : decode prog_9_method_7_code 10 = .ok (.aload_n 1, 1) := by decide +kernel
theorem d_Ru_lacksSuper_11 : decode prog_9_method_7_code 11 = .ok (.aload_n 0, 1) := by decide +kernel
theorem d_Ru_lacksSuper_12 : decode prog_9_method_7_code 12 = .ok (.getfield 19, 3) := by decide +kernel
theorem d_Ru_lacksSuper_15 : decode prog_9_method_7_code 15 = .ok (.iconst 2, 1) := by decide +kernel
theorem d_Ru_lacksSuper_16 : decode prog_9_method_7_code 16 = .ok (.iaload, 1) := by decide +kernel
theorem d_Ru_lacksSuper_17 : decode prog_9_method_7_code 17 = .ok (.invokevirtual 84, 3) := by decide +kernel
theorem d_Ru_lacksSuper_20 : decode prog_9_method_7_code 20 = .ok (.ifnonnull 7, 3) := by decide +kernel
theorem d_Ru_lacksSuper_23 : decode prog_9_method_7_code 23 = .ok (.iconst 1, 1) := by decide +kernel
theorem d_Ru_lacksSuper_24 : decode prog_9_method_7_code 24 = .ok (.goto 4, 3) := by decide +kernel
theorem d_Ru_lacksSuper_27 : decode prog_9_method_7_code 27 = .ok (.iconst 0, 1) := by decide +kernel
theorem d_Ru_lacksSuper_28 : decode prog_9_method_7_code 28 = .ok (.ireturn, 1) := by decide +kernel
theorem d_Ru_lacksCalledMethod_0 : decode prog_9_method_8_code 0 = .ok (.iconst 0, 1) := by decide +kernel
theorem d_Ru_lacksCalledMethod_1 : decode prog_9_method_8_code 1 = .ok (.istore_n 2, 1) := by decide +kernel
theorem d_Ru_lacksCalledMethod_2 : decode prog_9_method_8_code 2 = .ok (.iload_n 2, 1) := by decide +kernel
theorem d_Ru_lacksCalledMethod_3 : decode prog_9_method_8_code 3 = .ok (.aload_n 0, 1) := by decide +kernel
theorem d_Ru_lacksCalledMethod_4 : decode prog_9_method_8_code 4 = .ok (.getfield 61, 3) := by decide +kernel
theorem d_Ru_lacksCalledMethod_7 : decode prog_9_method_8_code 7 = .ok (.if_icmp .ge 69, 3) := by decide +kernel
theorem d_Ru_lacksCalledMethod_10 : decode prog_9_method_8_code 10 = .ok (.aload_n 0, 1) := by decide +kernel
theorem d_Ru_lacksCalledMethod_11 : decode prog_9_method_8_code 11 = .ok (.getfield 65, 3) := by decide +kernel
theorem d_Ru_lacksCalledMethod_14 : decode prog_9_method_8_code 14 = .ok (.iload_n 2, 1) := by decide +kernel
theorem d_Ru_lacksCalledMethod_15 : decode prog_9_method_8_code 15 = .ok (.aaload, 1) := by decide +kernel
theorem d_Ru_lacksCalledMethod_16 : decode prog_9_method_8_code 16 = .ok (.getfield 69, 3) := by decide +kernel
theorem d_Ru_lacksCalledMethod_19 : decode prog_9_method_8_code 19 = .ok (.astore_n 3, 1) := by decide +kernel
theorem d_Ru_lacksCalledMethod_20 : decode prog_9_method_8_code 20 = .ok (.iconst 0, 1) := by decide +kernel
theorem d_Ru_lacksCalledMethod_21 : decode prog_9_method_8_code 21 = .ok (.istore 4, 2) := by decide +kernel
theorem d_Ru_lacksCalledMethod_23 : decode prog_9_method_8_code 23 = .ok (.iload 4, 2) := by decide +kernel
theorem d_Ru_lacksCalledMethod_25 : decode prog_9_method_8_code 25 = .ok (.aload_n 3, 1) := by decide +kernel
theorem d_Ru_lacksCalledMethod_26 : decode prog_9_method_8_code 26 = .ok (.getfield 75, 3) := by decide +kernel
theorem d_Ru_lacksCalledMethod_29 : decode prog_9_method_8_code 29 = .ok (.if_icmp .ge 41, 3) := by decide +kernel
theorem d_Ru_lacksCalledMethod_32 : decode prog_9_method_8_code 32 = .ok (.aload_n 3, 1) := by decide +kernel
theorem d_Ru_lacksCalledMethod_33 : decode prog_9_method_8_code 33 = .ok (.iload 4, 2) := by decide +kernel
theorem d_Ru_lacksCalledMethod_35 : decode prog_9_method_8_code 35 = .ok (.invokevirtual 80, 3) := by decide +kernel
theorem d_Ru_lacksCalledMethod_38 : decode prog_9_method_8_code 38 = .ok (.iconst 1, 1) := by decide +kernel
theorem d_Ru_lacksCalledMethod_39 : decode prog_9_method_8_code 39 = .ok (.if_icmp .ne 25, 3) := by decide +kernel
theorem d_Ru_lacksCalledMethod_42 : decode prog_9_method_8_code 42 = .ok (.aload_n 0, 1) := by decide +kernel
theorem d_Ru_lacksCalledMethod_43 : decode prog_9_method_8_code 43 = .ok (.aload_n 3, 1) := by decide +kernel
theorem d_Ru_lacksCalledMethod_44 : decode prog_9_method_8_code 44 = .ok (.iload 4, 2) := by decide +kernel
theorem d_Ru_lacksCalledMethod_46 : decode prog_9_method_8_code 46 = .ok (.invokevirtual 96, 3) := by decide +kernel
theorem d_Ru_lacksCalledMethod_49 : decode prog_9_method_8_code 49 = .ok (.aload_n 3, 1) := by decide +kernel
theorem d_Ru_lacksCalledMethod_50 : decode prog_9_method_8_code 50 = .ok (.iload 4, 2) := by decide +kernel
theorem d_Ru_lacksCalledMethod_52 : decode prog_9_method_8_code 52 = .ok (.invokevirtual 99, 3) := by decide +kernel
theorem d_Ru_lacksCalledMethod_55 : decode prog_9_method_8_code 55 = .ok (.aload_n 1, 1) := by decide +kernel
theorem d_Ru_lacksCalledMethod_56 : decode prog_9_method_8_code 56 = .ok (.invokestatic 102, 3) := by decide +kernel
theorem d_Ru_lacksCalledMethod_59 : decode prog_9_method_8_code 59 = .ok (.ifCond .ne 5, 3) := by decide +kernel
theorem d_Ru_lacksCalledMethod_62 : decode prog_9_method_8_code 62 = .ok (.iconst 1, 1) := by decide +kernel
theorem d_Ru_lacksCalledMethod_63 : decode prog_9_method_8_code 63 = .ok (.ireturn, 1) := by decide +kernel
theorem d_Ru_lacksCalledMethod_64 : decode prog_9_method_8_code 64 = .ok (.iinc 4 1, 3) := by decide +kernel
theorem d_Ru_lacksCalledMethod_67 : decode prog_9_method_8_code 67 = .ok (.goto (-44), 3) := by decide +kernel
theorem d_Ru_lacksCalledMethod_70 : decode prog_9_method_8_code 70 = .ok (.iinc 2 1, 3) := by decide +kernel
theorem d_Ru_lacksCalledMethod_73 : decode prog_9_method_8_code 73 = .ok (.goto (-71), 3) := by decide +kernel
theorem d_Ru_lacksCalledMethod_76 : decode prog_9_method_8_code 76 = .ok (.iconst 0, 1) := by decide +kernel
theorem d_Ru_lacksCalledMethod_77 : decode prog_9_method_8_code 77 = .ok (.ireturn, 1) := by decide +kernel
theorem d_Ru_isCallable_0 : decode prog_9_method_9_code 0 = .ok (.iload_n 1, 1) := by decide +kernel
theorem d_Ru_isCallable_1 : decode prog_9_method_9_code 1 = .ok (.aload_n 0, 1) := by decide +kernel
theorem d_Ru_isCallable_2 : decode prog_9_method_9_code 2 = .ok (.getfield 19, 3) := by decide +kernel
theorem d_Ru_isCallable_5 : decode prog_9_method_9_code 5 = .ok (.iconst 1, 1) := by decide +kernel
theorem d_Ru_isCallable_6 : decode prog_9_method_9_code 6 = .ok (.iaload, 1) := by decide +kernel
theorem d_Ru_isCallable_7 : decode prog_9_method_9_code 7 = .ok (.if_icmp .ne 17, 3) := by decide +kernel
theorem d_Ru_isCallable_10 : decode prog_9_method_9_code 10 = .ok (.aload_n 0, 1) := by decide +kernel
theorem d_Ru_isCallable_11 : decode prog_9_method_9_code 11 = .ok (.iload_n 2, 1) := by decide +kernel
theorem d_Ru_isCallable_12 : decode prog_9_method_9_code 12 = .ok (.invokevirtual 106, 3) := by decide +kernel
theorem d_Ru_isCallable_15 : decode prog_9_method_9_code 15 = .ok (.ifnull 7, 3) := by decide +kernel
theorem d_Ru_isCallable_18 : decode prog_9_method_9_code 18 = .ok (.iconst 1, 1) := by decide +kernel
theorem d_Ru_isCallable_19 : decode prog_9_method_9_code 19 = .ok (.goto 4, 3) := by decide +kernel
theorem d_Ru_isCallable_22 : decode prog_9_method_9_code 22 = .ok (.iconst 0, 1) := by decide +kernel
theorem d_Ru_isCallable_23 : decode prog_9_method_9_code 23 = .ok (.ireturn, 1) := by decide +kernel
theorem d_Ru_isCallable_24 : decode prog_9_method_9_code 24 = .ok (.aload_n 3, 1) := by decide +kernel
theorem d_Ru_isCallable_25 : decode prog_9_method_9_code 25 = .ok (.iload_n 1, 1) := by decide +kernel
theorem d_Ru_isCallable_26 : decode prog_9_method_9_code 26 = .ok (.invokevirtual 84, 3) := by decide +kernel
theorem d_Ru_isCallable_29 : decode prog_9_method_9_code 29 = .ok (.astore 4, 2) := by decide +kernel
theorem d_Ru_isCallable_31 : decode prog_9_method_9_code 31 = .ok (.aload 4, 2) := by decide +kernel
theorem d_Ru_isCallable_33 : decode prog_9_method_9_code 33 = .ok (.ifnull 19, 3) := by decide +kernel
theorem d_Ru_isCallable_36 : decode prog_9_method_9_code 36 = .ok (.aload 4, 2) := by decide +kernel
theorem d_Ru_isCallable_38 : decode prog_9_method_9_code 38 = .ok (.getfield 90, 3) := by decide +kernel
theorem d_Ru_isCallable_41 : decode prog_9_method_9_code 41 = .ok (.iload_n 2, 1) := by decide +kernel
theorem d_Ru_isCallable_42 : decode prog_9_method_9_code 42 = .ok (.invokevirtual 106, 3) := by decide +kernel
theorem d_Ru_isCallable_45 : decode prog_9_method_9_code 45 = .ok (.ifnull 7, 3) := by decide +kernel
theorem d_Ru_isCallable_48 : decode prog_9_method_9_code 48 = .ok (.iconst 1, 1) := by decide +kernel
theorem d_Ru_isCallable_49 : decode prog_9_method_9_code 49 = .ok (.goto 4, 3) := by decide +kernel
theorem d_Ru_isCallable_52 : decode prog_9_method_9_code 52 = .ok (.iconst 0, 1) := by decide +kernel
theorem d_Ru_isCallable_53 : decode prog_9_method_9_code 53 = .ok (.ireturn, 1) := by decide +kernel
theorem d_Sh_init_0 : decode prog_10_method_1_code 0 = .ok (.aload_n 0, 1) := by decide +kernel
theorem d_Sh_init_1 : decode prog_10_method_1_code 1 = .ok (.invokespecial 3, 3) := by decide +kernel
theorem d_Sh_init_4 : decode prog_10_method_1_code 4 = .ok (.aload_n 0, 1) := by decide +kernel
theorem d_Sh_init_5 : decode prog_10_method_1_code 5 = .ok (.bipush 6, 2) := by decide +kernel
theorem d_Sh_init_7 : decode prog_10_method_1_code 7 = .ok (.anewarray 9, 3) := by decide +kernel
theorem d_Sh_init_10 : decode prog_10_method_1_code 10 = .ok (.putfield 11, 3) := by decide +kernel
theorem d_Sh_init_13 : decode prog_10_method_1_code 13 = .ok (.return_, 1) := by decide +kernel
theorem d_Sh_find_0 : decode prog_10_method_2_code 0 = .ok (.iload_n 1, 1) := by decide +kernel
theorem d_Sh_find_1 : decode prog_10_method_2_code 1 = .ok (.ifCond .lt 18, 3) := by decide +kernel
theorem d_Sh_find_4 : decode prog_10_method_2_code 4 = .ok (.iload_n 1, 1) := by decide +kernel
theorem d_Sh_find_5 : decode prog_10_method_2_code 5 = .ok (.bipush 6, 2) := by decide +kernel
theorem d_Sh_find_7 : decode prog_10_method_2_code 7 = .ok (.if_icmp .ge 12, 3) := by decide +kernel
theorem d_Sh_find_10 : decode prog_10_method_2_code 10 = .ok (.aload_n 0, 1) := by decide +kernel
theorem d_Sh_find_11 : decode prog_10_method_2_code 11 = .ok (.getfield 11, 3) := by decide +kernel
theorem d_Sh_find_14 : decode prog_10_method_2_code 14 = .ok (.iload_n 1, 1) := by decide +kernel
theorem d_Sh_find_15 : decode prog_10_method_2_code 15 = .ok (.aaload, 1) := by decide +kernel
theorem d_Sh_find_16 : decode prog_10_method_2_code 16 = .ok (.goto 4, 3) := by decide +kernel
theorem d_Sh_find_19 : decode prog_10_method_2_code 19 = .ok (.aconst_null, 1) := by decide +kernel
theorem d_Sh_find_20 : decode prog_10_method_2_code 20 = .ok (.areturn, 1) := by decide +kernel
theorem d_Sh_add_0 : decode prog_10_method_3_code 0 = .ok (.iload_n 1, 1) := by decide +kernel
theorem d_Sh_add_1 : decode prog_10_method_3_code 1 = .ok (.invokestatic 17, 3) := by decide +kernel
theorem d_Sh_add_4 : decode prog_10_method_3_code 4 = .ok (.ifCond .ne 4, 3) := by decide +kernel
theorem d_Sh_add_7 : decode prog_10_method_3_code 7 = .ok (.return_, 1) := by decide +kernel
theorem d_Sh_add_8 : decode prog_10_method_3_code 8 = .ok (.new 9, 3) := by decide +kernel
theorem d_Sh_add_11 : decode prog_10_method_3_code 11 = .ok (.dup, 1) := by decide +kernel
theorem d_Sh_add_12 : decode prog_10_method_3_code 12 = .ok (.invokespecial 21, 3) := by decide +kernel
theorem d_Sh_add_15 : decode prog_10_method_3_code 15 = .ok (.astore_n 3, 1) := by decide +kernel
theorem d_Sh_add_16 : decode prog_10_method_3_code 16 = .ok (.aload_n 3, 1) := by decide +kernel
theorem d_Sh_add_17 : decode prog_10_method_3_code 17 = .ok (.aload_n 2, 1) := by decide +kernel
theorem d_Sh_add_18 : decode prog_10_method_3_code 18 = .ok (.getfield 22, 3) := by decide +kernel
theorem d_Sh_add_21 : decode prog_10_method_3_code 21 = .ok (.invokevirtual 28, 3) := by decide +kernel
theorem d_Sh_add_24 : decode prog_10_method_3_code 24 = .ok (.aload_n 3, 1) := by decide +kernel
theorem d_Sh_add_25 : decode prog_10_method_3_code 25 = .ok (.getfield 32, 3) := by decide +kernel
theorem d_Sh_add_28 : decode prog_10_method_3_code 28 = .ok (.aload_n 2, 1) := by decide +kernel
theorem d_Sh_add_29 : decode prog_10_method_3_code 29 = .ok (.getfield 35, 3) := by decide +kernel
theorem d_Sh_add_32 : decode prog_10_method_3_code 32 = .ok (.invokevirtual 36, 3) := by decide +kernel
theorem d_Sh_add_35 : decode prog_10_method_3_code 35 = .ok (.aload_n 0, 1) := by decide +kernel
theorem d_Sh_add_36 : decode prog_10_method_3_code 36 = .ok (.getfield 11, 3) := by decide +kernel
theorem d_Sh_add_39 : decode prog_10_method_3_code 39 = .ok (.iload_n 1, 1) := by decide +kernel
theorem d_Sh_add_40 : decode prog_10_method_3_code 40 = .ok (.aload_n 3, 1) := by decide +kernel
theorem d_Sh_add_41 : decode prog_10_method_3_code 41 = .ok (.aastore, 1) := by decide +kernel
theorem d_Sh_add_42 : decode prog_10_method_3_code 42 = .ok (.return_, 1) := by decide +kernel
theorem d_Tf_init_0 : decode prog_11_method_1_code 0 = .ok (.aload_n 0, 1) := by decide +kernel
theorem d_Tf_init_1 : decode prog_11_method_1_code 1 = .ok (.invokespecial 3, 3) := by decide +kernel
theorem d_Tf_init_4 : decode prog_11_method_1_code 4 = .ok (.aload_n 0, 1) := by decide +kernel
theorem d_Tf_init_5 : decode prog_11_method_1_code 5 = .ok (.iconst 0, 1) := by decide +kernel
theorem d_Tf_init_6 : decode prog_11_method_1_code 6 = .ok (.putfield 9, 3) := by decide +kernel
theorem d_Tf_init_9 : decode prog_11_method_1_code 9 = .ok (.aload_n 0, 1) := by decide +kernel
theorem d_Tf_init_10 : decode prog_11_method_1_code 10 = .ok (.iconst 0, 1) := by decide +kernel
theorem d_Tf_init_11 : decode prog_11_method_1_code 11 = .ok (.putfield 15, 3) := by decide +kernel
theorem d_Tf_init_14 : decode prog_11_method_1_code 14 = .ok (.aload_n 0, 1) := by decide +kernel
theorem d_Tf_init_15 : decode prog_11_method_1_code 15 = .ok (.iconst 0, 1) := by decide +kernel
theorem d_Tf_init_16 : decode prog_11_method_1_code 16 = .ok (.putfield 19, 3) := by decide +kernel
theorem d_Tf_init_19 : decode prog_11_method_1_code 19 = .ok (.aload_n 0, 1) := by decide +kernel
theorem d_Tf_init_20 : decode prog_11_method_1_code 20 = .ok (.iconst (-1), 1) := by decide +kernel
theorem d_Tf_init_21 : decode prog_11_method_1_code 21 = .ok (.putfield 22, 3) := by decide +kernel
theorem d_Tf_init_24 : decode prog_11_method_1_code 24 = .ok (.aload_n 0, 1) := by decide +kernel
theorem d_Tf_init_25 : decode prog_11_method_1_code 25 = .ok (.iconst 0, 1) := by decide +kernel
theorem d_Tf_init_26 : decode prog_11_method_1_code 26 = .ok (.putfield 25, 3) := by decide +kernel
theorem d_Tf_init_29 : decode prog_11_method_1_code 29 = .ok (.return_, 1) := by decide +kernel
theorem d_Tf_isFor_0 : decode prog_11_method_2_code 0 = .ok (.aload_n 0, 1) := by decide +kernel
theorem d_Tf_isFor_1 : decode prog_11_method_2_code 1 = .ok (.getfield 22, 3) := by decide +kernel
theorem d_Tf_isFor_4 : decode prog_11_method_2_code 4 = .ok (.iconst (-1), 1) := by decide +kernel
theorem d_Tf_isFor_5 : decode prog_11_method_2_code 5 = .ok (.if_icmp .eq 11, 3) := by decide +kernel
theorem d_Tf_isFor_8 : decode prog_11_method_2_code 8 = .ok (.aload_n 0, 1) := by decide +kernel
theorem d_Tf_isFor_9 : decode prog_11_method_2_code 9 = .ok (.getfield 22, 3) := by decide +kernel
theorem d_Tf_isFor_12 : decode prog_11_method_2_code 12 = .ok (.iload_n 1, 1) := by decide +kernel
theorem d_Tf_isFor_13 : decode prog_11_method_2_code 13 = .ok (.if_icmp .ne 7, 3) := by decide +kernel
theorem d_Tf_isFor_16 : decode prog_11_method_2_code 16 = .ok (.iconst 1, 1) := by decide +kernel
theorem d_Tf_isFor_17 : decode prog_11_method_2_code 17 = .ok (.goto 4, 3) := by decide +kernel
theorem d_Tf_isFor_20 : decode prog_11_method_2_code 20 = .ok (.iconst 0, 1) := by decide +kernel
theorem d_Tf_isFor_21 : decode prog_11_method_2_code 21 = .ok (.ireturn, 1) := by decide +kernel
theorem d_Tf_change_0 : decode prog_11_method_3_code 0 = .ok (.aload_n 0, 1) := by decide +kernel
theorem d_Tf_change_1 : decode prog_11_method_3_code 1 = .ok (.getfield 15, 3) := by decide +kernel
theorem d_Tf_change_4 : decode prog_11_method_3_code 4 = .ok (.tableswitch 121 1 4 #[32, 67, 80, 98], 32) := by decide +kernel
theorem d_Tf_change_36 : decode prog_11_method_3_code 36 = .ok (.iconst 0, 1) := by decide +kernel
theorem d_Tf_change_37 : decode prog_11_method_3_code 37 = .ok (.istore_n 2, 1) := by decide +kernel
theorem d_Tf_change_38 : decode prog_11_method_3_code 38 = .ok (.iload_n 2, 1) := by decide +kernel
theorem d_Tf_change_39 : decode prog_11_method_3_code 39 = .ok (.aload_n 1, 1) := by decide +kernel
theorem d_Tf_change_40 : decode prog_11_method_3_code 40 = .ok (.getfield 28, 3) := by decide +kernel
theorem d_Tf_change_43 : decode prog_11_method_3_code 43 = .ok (.if_icmp .ge 25, 3) := by decide +kernel
theorem d_Tf_change_46 : decode prog_11_method_3_code 46 = .ok (.aload_n 1, 1) := by decide +kernel
theorem d_Tf_change_47 : decode prog_11_method_3_code 47 = .ok (.getfield 33, 3) := by decide +kernel
theorem d_Tf_change_50 : decode prog_11_method_3_code 50 = .ok (.iload_n 2, 1) := by decide +kernel
theorem d_Tf_change_51 : decode prog_11_method_3_code 51 = .ok (.aaload, 1) := by decide +kernel
theorem d_Tf_change_52 : decode prog_11_method_3_code 52 = .ok (.getfield 37, 3) := by decide +kernel
theorem d_Tf_change_55 : decode prog_11_method_3_code 55 = .ok (.aload_n 0, 1) := by decide +kernel
theorem d_Tf_change_56 : decode prog_11_method_3_code 56 = .ok (.getfield 19, 3) := by decide +kernel
theorem d_Tf_change_59 : decode prog_11_method_3_code 59 = .ok (.invokevirtual 43, 3) := by decide +kernel
theorem d_Tf_change_62 : decode prog_11_method_3_code 62 = .ok (.iinc 2 1, 3) := by decide +kernel
theorem d_Tf_change_65 : decode prog_11_method_3_code 65 = .ok (.goto (-27), 3) := by decide +kernel
theorem d_Tf_change_68 : decode prog_11_method_3_code 68 = .ok (.goto 57, 3) := by decide +kernel
theorem d_Tf_change_71 : decode prog_11_method_3_code 71 = .ok (.aload_n 1, 1) := by decide +kernel
theorem d_Tf_change_72 : decode prog_11_method_3_code 72 = .ok (.getfield 49, 3) := by decide +kernel
theorem d_Tf_change_75 : decode prog_11_method_3_code 75 = .ok (.iconst 3, 1) := by decide +kernel
theorem d_Tf_change_76 : decode prog_11_method_3_code 76 = .ok (.aload_n 0, 1) := by decide +kernel
theorem d_Tf_change_77 : decode prog_11_method_3_code 77 = .ok (.getfield 19, 3) := by decide +kernel
theorem d_Tf_change_80 : decode prog_11_method_3_code 80 = .ok (.iastore, 1) := by decide +kernel
theorem d_Tf_change_81 : decode prog_11_method_3_code 81 = .ok (.goto 44, 3) := by decide +kernel
theorem d_Tf_change_84 : decode prog_11_method_3_code 84 = .ok (.aload_n 1, 1) := by decide +kernel
theorem d_Tf_change_85 : decode prog_11_method_3_code 85 = .ok (.aload_n 0, 1) := by decide +kernel
theorem d_Tf_change_86 : decode prog_11_method_3_code 86 = .ok (.getfield 19, 3) := by decide +kernel
theorem d_Tf_change_89 : decode prog_11_method_3_code 89 = .ok (.invokevirtual 53, 3) := by decide +kernel
theorem d_Tf_change_92 : decode prog_11_method_3_code 92 = .ok (.ifnull 33, 3) := by decide +kernel
theorem d_Tf_change_95 : decode prog_11_method_3_code 95 = .ok (.aload_n 1, 1) := by decide +kernel
theorem d_Tf_change_96 : decode prog_11_method_3_code 96 = .ok (.invokestatic 57, 3) := by decide +kernel
theorem d_Tf_change_99 : decode prog_11_method_3_code 99 = .ok (.goto 26, 3) := by decide +kernel
theorem d_Tf_change_102 : decode prog_11_method_3_code 102 = .ok (.aload_n 1, 1) := by decide +kernel
theorem d_Tf_change_103 : decode prog_11_method_3_code 103 = .ok (.getfield 28, 3) := by decide +kernel
theorem d_Tf_change_106 : decode prog_11_method_3_code 106 = .ok (.ifCond .le 19, 3) := by decide +kernel
theorem d_Tf_change_109 : decode prog_11_method_3_code 109 = .ok (.aload_n 1, 1) := by decide +kernel
theorem d_Tf_change_110 : decode prog_11_method_3_code 110 = .ok (.getfield 33, 3) := by decide +kernel
theorem d_Tf_change_113 : decode prog_11_method_3_code 113 = .ok (.iconst 0, 1) := by decide +kernel
theorem d_Tf_change_114 : decode prog_11_method_3_code 114 = .ok (.aaload, 1) := by decide +kernel
theorem d_Tf_change_115 : decode prog_11_method_3_code 115 = .ok (.aload_n 0, 1) := by decide +kernel
theorem d_Tf_change_116 : decode prog_11_method_3_code 116 = .ok (.getfield 19, 3) := by decide +kernel
theorem d_Tf_change_119 : decode prog_11_method_3_code 119 = .ok (.putfield 61, 3) := by decide +kernel
theorem d_Tf_change_122 : decode prog_11_method_3_code 122 = .ok (.goto 3, 3) := by decide +kernel
theorem d_Tf_change_125 : decode prog_11_method_3_code 125 = .ok (.return_, 1) := by decide +kernel
theorem d_Tf_emptyAllCode_0 : decode prog_11_method_4_code 0 = .ok (.iconst 0, 1) := by decide +kernel
theorem d_Tf_emptyAllCode_1 : decode prog_11_method_4_code 1 = .ok (.istore_n 1, 1) := by decide +kernel
theorem d_Tf_emptyAllCode_2 : decode prog_11_method_4_code 2 = .ok (.iload_n 1, 1) := by decide +kernel
theorem d_Tf_emptyAllCode_3 : decode prog_11_method_4_code 3 = .ok (.aload_n 0, 1) := by decide +kernel
theorem d_Tf_emptyAllCode_4 : decode prog_11_method_4_code 4 = .ok (.getfield 28, 3) := by decide +kernel
theorem d_Tf_emptyAllCode_7 : decode prog_11_method_4_code 7 = .ok (.if_icmp .ge 21, 3) := by decide +kernel
theorem d_Tf_emptyAllCode_10 : decode prog_11_method_4_code 10 = .ok (.aload_n 0, 1) := by decide +kernel
theorem d_Tf_emptyAllCode_11 : decode prog_11_method_4_code 11 = .ok (.getfield 33, 3) := by decide +kernel
theorem d_Tf_emptyAllCode_14 : decode prog_11_method_4_code 14 = .ok (.iload_n 1, 1) := by decide +kernel
theorem d_Tf_emptyAllCode_15 : decode prog_11_method_4_code 15 = .ok (.aaload, 1) := by decide +kernel
theorem d_Tf_emptyAllCode_16 : decode prog_11_method_4_code 16 = .ok (.getfield 37, 3) := by decide +kernel
theorem d_Tf_emptyAllCode_19 : decode prog_11_method_4_code 19 = .ok (.invokevirtual 64, 3) := by decide +kernel
theorem d_Tf_emptyAllCode_22 : decode prog_11_method_4_code 22 = .ok (.iinc 1 1, 3) := by decide +kernel
theorem d_Tf_emptyAllCode_25 : decode prog_11_method_4_code 25 = .ok (.goto (-23), 3) := by decide +kernel
theorem d_Tf_emptyAllCode_28 : decode prog_11_method_4_code 28 = .ok (.return_, 1) := by decide +kernel
theorem d_Tr_init_0 : decode prog_12_method_1_code 0 = .ok (.aload_n 0, 1) := by decide +kernel
theorem d_Tr_init_1 : decode prog_12_method_1_code 1 = .ok (.invokespecial 3, 3) := by decide +kernel
theorem d_Tr_init_4 : decode prog_12_method_1_code 4 = .ok (.aload_n 0, 1) := by decide +kernel
theorem d_Tr_init_5 : decode prog_12_method_1_code 5 = .ok (.iconst (-1), 1) := by decide +kernel
theorem d_Tr_init_6 : decode prog_12_method_1_code 6 = .ok (.putfield 9, 3) := by decide +kernel
theorem d_Tr_init_9 : decode prog_12_method_1_code 9 = .ok (.aload_n 0, 1) := by decide +kernel
theorem d_Tr_init_10 : decode prog_12_method_1_code 10 = .ok (.new 15, 3) := by decide +kernel
theorem d_Tr_init_13 : decode prog_12_method_1_code 13 = .ok (.dup, 1) := by decide +kernel
theorem d_Tr_init_14 : decode prog_12_method_1_code 14 = .ok (.invokespecial 17, 3) := by decide +kernel
theorem d_Tr_init_17 : decode prog_12_method_1_code 17 = .ok (.putfield 18, 3) := by decide +kernel
theorem d_Tr_init_20 : decode prog_12_method_1_code 20 = .ok (.aload_n 0, 1) := by decide +kernel
theorem d_Tr_init_21 : decode prog_12_method_1_code 21 = .ok (.new 15, 3) := by decide +kernel
theorem d_Tr_init_24 : decode prog_12_method_1_code 24 = .ok (.dup, 1) := by decide +kernel
theorem d_Tr_init_25 : decode prog_12_method_1_code 25 = .ok (.invokespecial 17, 3) := by decide +kernel
theorem d_Tr_init_28 : decode prog_12_method_1_code 28 = .ok (.putfield 22, 3) := by decide +kernel
theorem d_Tr_init_31 : decode prog_12_method_1_code 31 = .ok (.return_, 1) := by decide +kernel
theorem d_Tr_take_0 : decode prog_12_method_2_code 0 = .ok (.aload_n 0, 1) := by decide +kernel
theorem d_Tr_take_1 : decode prog_12_method_2_code 1 = .ok (.getfield 18, 3) := by decide +kernel
theorem d_Tr_take_4 : decode prog_12_method_2_code 4 = .ok (.aload_n 1, 1) := by decide +kernel
theorem d_Tr_take_5 : decode prog_12_method_2_code 5 = .ok (.invokevirtual 25, 3) := by decide +kernel
theorem d_Tr_take_8 : decode prog_12_method_2_code 8 = .ok (.aload_n 0, 1) := by decide +kernel
theorem d_Tr_take_9 : decode prog_12_method_2_code 9 = .ok (.iload_n 2, 1) := by decide +kernel
theorem d_Tr_take_10 : decode prog_12_method_2_code 10 = .ok (.putfield 9, 3) := by decide +kernel
theorem d_Tr_take_13 : decode prog_12_method_2_code 13 = .ok (.return_, 1) := by decide +kernel

/-! Decode rows of the reference. -/
theorem d_Mo_init_0 : decode prog_14_method_1_code 0 = .ok (.aload_n 0, 1) := by decide +kernel
theorem d_Mo_init_1 : decode prog_14_method_1_code 1 = .ok (.invokespecial 1, 3) := by decide +kernel
theorem d_Mo_init_4 : decode prog_14_method_1_code 4 = .ok (.aload_n 0, 1) := by decide +kernel
theorem d_Mo_init_5 : decode prog_14_method_1_code 5 = .ok (.sipush 4387, 3) := by decide +kernel
theorem d_Mo_init_8 : decode prog_14_method_1_code 8 = .ok (.newarray .int, 2) := by decide +kernel
theorem d_Mo_init_10 : decode prog_14_method_1_code 10 = .ok (.putfield 7, 3) := by decide +kernel
theorem d_Mo_init_13 : decode prog_14_method_1_code 13 = .ok (.aload_n 0, 1) := by decide +kernel
theorem d_Mo_init_14 : decode prog_14_method_1_code 14 = .ok (.iconst (-1), 1) := by decide +kernel
theorem d_Mo_init_15 : decode prog_14_method_1_code 15 = .ok (.putfield 13, 3) := by decide +kernel
theorem d_Mo_init_18 : decode prog_14_method_1_code 18 = .ok (.aload_n 0, 1) := by decide +kernel
theorem d_Mo_init_19 : decode prog_14_method_1_code 19 = .ok (.bipush 6, 2) := by decide +kernel
theorem d_Mo_init_21 : decode prog_14_method_1_code 21 = .ok (.newarray .int, 2) := by decide +kernel
theorem d_Mo_init_23 : decode prog_14_method_1_code 23 = .ok (.putfield 17, 3) := by decide +kernel
theorem d_Mo_init_26 : decode prog_14_method_1_code 26 = .ok (.aload_n 0, 1) := by decide +kernel
theorem d_Mo_init_27 : decode prog_14_method_1_code 27 = .ok (.bipush 6, 2) := by decide +kernel
theorem d_Mo_init_29 : decode prog_14_method_1_code 29 = .ok (.newarray .int, 2) := by decide +kernel
theorem d_Mo_init_31 : decode prog_14_method_1_code 31 = .ok (.putfield 20, 3) := by decide +kernel
theorem d_Mo_init_34 : decode prog_14_method_1_code 34 = .ok (.aload_n 0, 1) := by decide +kernel
theorem d_Mo_init_35 : decode prog_14_method_1_code 35 = .ok (.bipush 41, 2) := by decide +kernel
theorem d_Mo_init_37 : decode prog_14_method_1_code 37 = .ok (.newarray .int, 2) := by decide +kernel
theorem d_Mo_init_39 : decode prog_14_method_1_code 39 = .ok (.putfield 23, 3) := by decide +kernel
theorem d_Mo_init_42 : decode prog_14_method_1_code 42 = .ok (.aload_n 0, 1) := by decide +kernel
theorem d_Mo_init_43 : decode prog_14_method_1_code 43 = .ok (.bipush 41, 2) := by decide +kernel
theorem d_Mo_init_45 : decode prog_14_method_1_code 45 = .ok (.newarray .int, 2) := by decide +kernel
theorem d_Mo_init_47 : decode prog_14_method_1_code 47 = .ok (.putfield 26, 3) := by decide +kernel
theorem d_Mo_init_50 : decode prog_14_method_1_code 50 = .ok (.aload_n 0, 1) := by decide +kernel
theorem d_Mo_init_51 : decode prog_14_method_1_code 51 = .ok (.iconst 5, 1) := by decide +kernel
theorem d_Mo_init_52 : decode prog_14_method_1_code 52 = .ok (.newarray .boolean, 2) := by decide +kernel
theorem d_Mo_init_54 : decode prog_14_method_1_code 54 = .ok (.putfield 29, 3) := by decide +kernel
theorem d_Mo_init_57 : decode prog_14_method_1_code 57 = .ok (.aload_n 0, 1) := by decide +kernel
theorem d_Mo_init_58 : decode prog_14_method_1_code 58 = .ok (.iconst 5, 1) := by decide +kernel
theorem d_Mo_init_59 : decode prog_14_method_1_code 59 = .ok (.newarray .int, 2) := by decide +kernel
theorem d_Mo_init_61 : decode prog_14_method_1_code 61 = .ok (.putfield 33, 3) := by decide +kernel
theorem d_Mo_init_64 : decode prog_14_method_1_code 64 = .ok (.aload_n 0, 1) := by decide +kernel
theorem d_Mo_init_65 : decode prog_14_method_1_code 65 = .ok (.iconst 5, 1) := by decide +kernel
theorem d_Mo_init_66 : decode prog_14_method_1_code 66 = .ok (.newarray .int, 2) := by decide +kernel
theorem d_Mo_init_68 : decode prog_14_method_1_code 68 = .ok (.putfield 36, 3) := by decide +kernel
theorem d_Mo_init_71 : decode prog_14_method_1_code 71 = .ok (.aload_n 0, 1) := by decide +kernel
theorem d_Mo_init_72 : decode prog_14_method_1_code 72 = .ok (.iconst 5, 1) := by decide +kernel
theorem d_Mo_init_73 : decode prog_14_method_1_code 73 = .ok (.newarray .int, 2) := by decide +kernel
theorem d_Mo_init_75 : decode prog_14_method_1_code 75 = .ok (.putfield 39, 3) := by decide +kernel
theorem d_Mo_init_78 : decode prog_14_method_1_code 78 = .ok (.aload_n 0, 1) := by decide +kernel
theorem d_Mo_init_79 : decode prog_14_method_1_code 79 = .ok (.iconst 5, 1) := by decide +kernel
theorem d_Mo_init_80 : decode prog_14_method_1_code 80 = .ok (.newarray .boolean, 2) := by decide +kernel
theorem d_Mo_init_82 : decode prog_14_method_1_code 82 = .ok (.putfield 42, 3) := by decide +kernel
theorem d_Mo_init_85 : decode prog_14_method_1_code 85 = .ok (.aload_n 0, 1) := by decide +kernel
theorem d_Mo_init_86 : decode prog_14_method_1_code 86 = .ok (.iconst 3, 1) := by decide +kernel
theorem d_Mo_init_87 : decode prog_14_method_1_code 87 = .ok (.newarray .int, 2) := by decide +kernel
theorem d_Mo_init_89 : decode prog_14_method_1_code 89 = .ok (.putfield 45, 3) := by decide +kernel
theorem d_Mo_init_92 : decode prog_14_method_1_code 92 = .ok (.aload_n 0, 1) := by decide +kernel
theorem d_Mo_init_93 : decode prog_14_method_1_code 93 = .ok (.iconst 3, 1) := by decide +kernel
theorem d_Mo_init_94 : decode prog_14_method_1_code 94 = .ok (.newarray .int, 2) := by decide +kernel
theorem d_Mo_init_96 : decode prog_14_method_1_code 96 = .ok (.putfield 48, 3) := by decide +kernel
theorem d_Mo_init_99 : decode prog_14_method_1_code 99 = .ok (.aload_n 0, 1) := by decide +kernel
theorem d_Mo_init_100 : decode prog_14_method_1_code 100 = .ok (.bipush 15, 2) := by decide +kernel
theorem d_Mo_init_102 : decode prog_14_method_1_code 102 = .ok (.newarray .int, 2) := by decide +kernel
theorem d_Mo_init_104 : decode prog_14_method_1_code 104 = .ok (.putfield 51, 3) := by decide +kernel
theorem d_Mo_init_107 : decode prog_14_method_1_code 107 = .ok (.aload_n 0, 1) := by decide +kernel
theorem d_Mo_init_108 : decode prog_14_method_1_code 108 = .ok (.bipush 15, 2) := by decide +kernel
theorem d_Mo_init_110 : decode prog_14_method_1_code 110 = .ok (.newarray .int, 2) := by decide +kernel
theorem d_Mo_init_112 : decode prog_14_method_1_code 112 = .ok (.putfield 54, 3) := by decide +kernel
theorem d_Mo_init_115 : decode prog_14_method_1_code 115 = .ok (.aload_n 0, 1) := by decide +kernel
theorem d_Mo_init_116 : decode prog_14_method_1_code 116 = .ok (.bipush 15, 2) := by decide +kernel
theorem d_Mo_init_118 : decode prog_14_method_1_code 118 = .ok (.newarray .int, 2) := by decide +kernel
theorem d_Mo_init_120 : decode prog_14_method_1_code 120 = .ok (.putfield 57, 3) := by decide +kernel
theorem d_Mo_init_123 : decode prog_14_method_1_code 123 = .ok (.aload_n 0, 1) := by decide +kernel
theorem d_Mo_init_124 : decode prog_14_method_1_code 124 = .ok (.bipush 15, 2) := by decide +kernel
theorem d_Mo_init_126 : decode prog_14_method_1_code 126 = .ok (.newarray .int, 2) := by decide +kernel
theorem d_Mo_init_128 : decode prog_14_method_1_code 128 = .ok (.putfield 60, 3) := by decide +kernel
theorem d_Mo_init_131 : decode prog_14_method_1_code 131 = .ok (.aload_n 0, 1) := by decide +kernel
theorem d_Mo_init_132 : decode prog_14_method_1_code 132 = .ok (.iconst 3, 1) := by decide +kernel
theorem d_Mo_init_133 : decode prog_14_method_1_code 133 = .ok (.newarray .int, 2) := by decide +kernel
theorem d_Mo_init_135 : decode prog_14_method_1_code 135 = .ok (.putfield 63, 3) := by decide +kernel
theorem d_Mo_init_138 : decode prog_14_method_1_code 138 = .ok (.aload_n 0, 1) := by decide +kernel
theorem d_Mo_init_139 : decode prog_14_method_1_code 139 = .ok (.invokevirtual 66, 3) := by decide +kernel
theorem d_Mo_init_142 : decode prog_14_method_1_code 142 = .ok (.return_, 1) := by decide +kernel
theorem d_Mo_get_0 : decode prog_14_method_2_code 0 = .ok (.aload_n 0, 1) := by decide +kernel
theorem d_Mo_get_1 : decode prog_14_method_2_code 1 = .ok (.getfield 7, 3) := by decide +kernel
theorem d_Mo_get_4 : decode prog_14_method_2_code 4 = .ok (.bipush 107, 2) := by decide +kernel
theorem d_Mo_get_6 : decode prog_14_method_2_code 6 = .ok (.iload_n 1, 1) := by decide +kernel
theorem d_Mo_get_7 : decode prog_14_method_2_code 7 = .ok (.imul, 1) := by decide +kernel
theorem d_Mo_get_8 : decode prog_14_method_2_code 8 = .ok (.iload_n 2, 1) := by decide +kernel
theorem d_Mo_get_9 : decode prog_14_method_2_code 9 = .ok (.iadd, 1) := by decide +kernel
theorem d_Mo_get_10 : decode prog_14_method_2_code 10 = .ok (.iaload, 1) := by decide +kernel
theorem d_Mo_get_11 : decode prog_14_method_2_code 11 = .ok (.ireturn, 1) := by decide +kernel
theorem d_Mo_put_0 : decode prog_14_method_3_code 0 = .ok (.aload_n 0, 1) := by decide +kernel
theorem d_Mo_put_1 : decode prog_14_method_3_code 1 = .ok (.getfield 7, 3) := by decide +kernel
theorem d_Mo_put_4 : decode prog_14_method_3_code 4 = .ok (.bipush 107, 2) := by decide +kernel
theorem d_Mo_put_6 : decode prog_14_method_3_code 6 = .ok (.iload_n 1, 1) := by decide +kernel
theorem d_Mo_put_7 : decode prog_14_method_3_code 7 = .ok (.imul, 1) := by decide +kernel
theorem d_Mo_put_8 : decode prog_14_method_3_code 8 = .ok (.iload_n 2, 1) := by decide +kernel
theorem d_Mo_put_9 : decode prog_14_method_3_code 9 = .ok (.iadd, 1) := by decide +kernel
theorem d_Mo_put_10 : decode prog_14_method_3_code 10 = .ok (.iload_n 3, 1) := by decide +kernel
theorem d_Mo_put_11 : decode prog_14_method_3_code 11 = .ok (.iastore, 1) := by decide +kernel
theorem d_Mo_put_12 : decode prog_14_method_3_code 12 = .ok (.return_, 1) := by decide +kernel
theorem d_Mo_transcribe_0 : decode prog_14_method_4_code 0 = .ok (.iconst 0, 1) := by decide +kernel
theorem d_Mo_transcribe_1 : decode prog_14_method_4_code 1 = .ok (.istore_n 3, 1) := by decide +kernel
theorem d_Mo_transcribe_2 : decode prog_14_method_4_code 2 = .ok (.iload_n 3, 1) := by decide +kernel
theorem d_Mo_transcribe_3 : decode prog_14_method_4_code 3 = .ok (.bipush 107, 2) := by decide +kernel
theorem d_Mo_transcribe_5 : decode prog_14_method_4_code 5 = .ok (.if_icmp .ge 21, 3) := by decide +kernel
theorem d_Mo_transcribe_8 : decode prog_14_method_4_code 8 = .ok (.aload_n 0, 1) := by decide +kernel
theorem d_Mo_transcribe_9 : decode prog_14_method_4_code 9 = .ok (.iload_n 2, 1) := by decide +kernel
theorem d_Mo_transcribe_10 : decode prog_14_method_4_code 10 = .ok (.iload_n 3, 1) := by decide +kernel
theorem d_Mo_transcribe_11 : decode prog_14_method_4_code 11 = .ok (.aload_n 0, 1) := by decide +kernel
theorem d_Mo_transcribe_12 : decode prog_14_method_4_code 12 = .ok (.iload_n 1, 1) := by decide +kernel
theorem d_Mo_transcribe_13 : decode prog_14_method_4_code 13 = .ok (.iload_n 3, 1) := by decide +kernel
theorem d_Mo_transcribe_14 : decode prog_14_method_4_code 14 = .ok (.invokevirtual 69, 3) := by decide +kernel
theorem d_Mo_transcribe_17 : decode prog_14_method_4_code 17 = .ok (.invokevirtual 73, 3) := by decide +kernel
theorem d_Mo_transcribe_20 : decode prog_14_method_4_code 20 = .ok (.iinc 3 1, 3) := by decide +kernel
theorem d_Mo_transcribe_23 : decode prog_14_method_4_code 23 = .ok (.goto (-21), 3) := by decide +kernel
theorem d_Mo_transcribe_26 : decode prog_14_method_4_code 26 = .ok (.return_, 1) := by decide +kernel
theorem d_Mo_loaded_0 : decode prog_14_method_5_code 0 = .ok (.iload_n 1, 1) := by decide +kernel
theorem d_Mo_loaded_1 : decode prog_14_method_5_code 1 = .ok (.ifCond .lt 21, 3) := by decide +kernel
theorem d_Mo_loaded_4 : decode prog_14_method_5_code 4 = .ok (.iload_n 1, 1) := by decide +kernel
theorem d_Mo_loaded_5 : decode prog_14_method_5_code 5 = .ok (.iconst 5, 1) := by decide +kernel
theorem d_Mo_loaded_6 : decode prog_14_method_5_code 6 = .ok (.if_icmp .gt 16, 3) := by decide +kernel
theorem d_Mo_loaded_9 : decode prog_14_method_5_code 9 = .ok (.aload_n 0, 1) := by decide +kernel
theorem d_Mo_loaded_10 : decode prog_14_method_5_code 10 = .ok (.getfield 17, 3) := by decide +kernel
theorem d_Mo_loaded_13 : decode prog_14_method_5_code 13 = .ok (.iload_n 1, 1) := by decide +kernel
theorem d_Mo_loaded_14 : decode prog_14_method_5_code 14 = .ok (.iaload, 1) := by decide +kernel
theorem d_Mo_loaded_15 : decode prog_14_method_5_code 15 = .ok (.ifCond .le 7, 3) := by decide +kernel
theorem d_Mo_loaded_18 : decode prog_14_method_5_code 18 = .ok (.iconst 1, 1) := by decide +kernel
theorem d_Mo_loaded_19 : decode prog_14_method_5_code 19 = .ok (.goto 4, 3) := by decide +kernel
theorem d_Mo_loaded_22 : decode prog_14_method_5_code 22 = .ok (.iconst 0, 1) := by decide +kernel
theorem d_Mo_loaded_23 : decode prog_14_method_5_code 23 = .ok (.ireturn, 1) := by decide +kernel
theorem d_Mo_blank_0 : decode prog_14_method_6_code 0 = .ok (.iconst 0, 1) := by decide +kernel
theorem d_Mo_blank_1 : decode prog_14_method_6_code 1 = .ok (.istore_n 1, 1) := by decide +kernel
theorem d_Mo_blank_2 : decode prog_14_method_6_code 2 = .ok (.iload_n 1, 1) := by decide +kernel
theorem d_Mo_blank_3 : decode prog_14_method_6_code 3 = .ok (.bipush 107, 2) := by decide +kernel
theorem d_Mo_blank_5 : decode prog_14_method_6_code 5 = .ok (.if_icmp .ge 16, 3) := by decide +kernel
theorem d_Mo_blank_8 : decode prog_14_method_6_code 8 = .ok (.aload_n 0, 1) := by decide +kernel
theorem d_Mo_blank_9 : decode prog_14_method_6_code 9 = .ok (.iconst 0, 1) := by decide +kernel
theorem d_Mo_blank_10 : decode prog_14_method_6_code 10 = .ok (.iload_n 1, 1) := by decide +kernel
theorem d_Mo_blank_11 : decode prog_14_method_6_code 11 = .ok (.iconst 0, 1) := by decide +kernel
theorem d_Mo_blank_12 : decode prog_14_method_6_code 12 = .ok (.invokevirtual 73, 3) := by decide +kernel
theorem d_Mo_blank_15 : decode prog_14_method_6_code 15 = .ok (.iinc 1 1, 3) := by decide +kernel
theorem d_Mo_blank_18 : decode prog_14_method_6_code 18 = .ok (.goto (-16), 3) := by decide +kernel
theorem d_Mo_blank_21 : decode prog_14_method_6_code 21 = .ok (.aload_n 0, 1) := by decide +kernel
theorem d_Mo_blank_22 : decode prog_14_method_6_code 22 = .ok (.iconst 0, 1) := by decide +kernel
theorem d_Mo_blank_23 : decode prog_14_method_6_code 23 = .ok (.iconst 0, 1) := by decide +kernel
theorem d_Mo_blank_24 : decode prog_14_method_6_code 24 = .ok (.iconst 1, 1) := by decide +kernel
theorem d_Mo_blank_25 : decode prog_14_method_6_code 25 = .ok (.invokevirtual 73, 3) := by decide +kernel
theorem d_Mo_blank_28 : decode prog_14_method_6_code 28 = .ok (.aload_n 0, 1) := by decide +kernel
theorem d_Mo_blank_29 : decode prog_14_method_6_code 29 = .ok (.iconst 0, 1) := by decide +kernel
theorem d_Mo_blank_30 : decode prog_14_method_6_code 30 = .ok (.iconst 2, 1) := by decide +kernel
theorem d_Mo_blank_31 : decode prog_14_method_6_code 31 = .ok (.iconst (-1), 1) := by decide +kernel
theorem d_Mo_blank_32 : decode prog_14_method_6_code 32 = .ok (.invokevirtual 73, 3) := by decide +kernel
theorem d_Mo_blank_35 : decode prog_14_method_6_code 35 = .ok (.aload_n 0, 1) := by decide +kernel
theorem d_Mo_blank_36 : decode prog_14_method_6_code 36 = .ok (.iconst (-1), 1) := by decide +kernel
theorem d_Mo_blank_37 : decode prog_14_method_6_code 37 = .ok (.putfield 13, 3) := by decide +kernel
theorem d_Mo_blank_40 : decode prog_14_method_6_code 40 = .ok (.return_, 1) := by decide +kernel
theorem d_Mo_copy_0 : decode prog_14_method_7_code 0 = .ok (.aload_n 0, 1) := by decide +kernel
theorem d_Mo_copy_1 : decode prog_14_method_7_code 1 = .ok (.iload_n 1, 1) := by decide +kernel
theorem d_Mo_copy_2 : decode prog_14_method_7_code 2 = .ok (.invokevirtual 77, 3) := by decide +kernel
theorem d_Mo_copy_5 : decode prog_14_method_7_code 5 = .ok (.ifCond .ne 5, 3) := by decide +kernel
theorem d_Mo_copy_8 : decode prog_14_method_7_code 8 = .ok (.iconst 0, 1) := by decide +kernel
theorem d_Mo_copy_9 : decode prog_14_method_7_code 9 = .ok (.ireturn, 1) := by decide +kernel
theorem d_Mo_copy_10 : decode prog_14_method_7_code 10 = .ok (.aload_n 0, 1) := by decide +kernel
theorem d_Mo_copy_11 : decode prog_14_method_7_code 11 = .ok (.aload_n 0, 1) := by decide +kernel
theorem d_Mo_copy_12 : decode prog_14_method_7_code 12 = .ok (.getfield 17, 3) := by decide +kernel
theorem d_Mo_copy_15 : decode prog_14_method_7_code 15 = .ok (.iload_n 1, 1) := by decide +kernel
theorem d_Mo_copy_16 : decode prog_14_method_7_code 16 = .ok (.iaload, 1) := by decide +kernel
theorem d_Mo_copy_17 : decode prog_14_method_7_code 17 = .ok (.iconst 0, 1) := by decide +kernel
theorem d_Mo_copy_18 : decode prog_14_method_7_code 18 = .ok (.invokevirtual 81, 3) := by decide +kernel
theorem d_Mo_copy_21 : decode prog_14_method_7_code 21 = .ok (.aload_n 0, 1) := by decide +kernel
theorem d_Mo_copy_22 : decode prog_14_method_7_code 22 = .ok (.iconst (-1), 1) := by decide +kernel
theorem d_Mo_copy_23 : decode prog_14_method_7_code 23 = .ok (.putfield 13, 3) := by decide +kernel
theorem d_Mo_copy_26 : decode prog_14_method_7_code 26 = .ok (.iconst 1, 1) := by decide +kernel
theorem d_Mo_copy_27 : decode prog_14_method_7_code 27 = .ok (.ireturn, 1) := by decide +kernel
theorem d_Mo_set_0 : decode prog_14_method_8_code 0 = .ok (.iload_n 1, 1) := by decide +kernel
theorem d_Mo_set_1 : decode prog_14_method_8_code 1 = .ok (.ifCond .lt 8, 3) := by decide +kernel
theorem d_Mo_set_4 : decode prog_14_method_8_code 4 = .ok (.iload_n 1, 1) := by decide +kernel
theorem d_Mo_set_5 : decode prog_14_method_8_code 5 = .ok (.iconst 4, 1) := by decide +kernel
theorem d_Mo_set_6 : decode prog_14_method_8_code 6 = .ok (.if_icmp .le 5, 3) := by decide +kernel
theorem d_Mo_set_9 : decode prog_14_method_8_code 9 = .ok (.iconst 0, 1) := by decide +kernel
theorem d_Mo_set_10 : decode prog_14_method_8_code 10 = .ok (.ireturn, 1) := by decide +kernel
theorem d_Mo_set_11 : decode prog_14_method_8_code 11 = .ok (.aload_n 0, 1) := by decide +kernel
theorem d_Mo_set_12 : decode prog_14_method_8_code 12 = .ok (.iconst 0, 1) := by decide +kernel
theorem d_Mo_set_13 : decode prog_14_method_8_code 13 = .ok (.iload_n 1, 1) := by decide +kernel
theorem d_Mo_set_14 : decode prog_14_method_8_code 14 = .ok (.iload_n 2, 1) := by decide +kernel
theorem d_Mo_set_15 : decode prog_14_method_8_code 15 = .ok (.invokevirtual 73, 3) := by decide +kernel
theorem d_Mo_set_18 : decode prog_14_method_8_code 18 = .ok (.iconst 1, 1) := by decide +kernel
theorem d_Mo_set_19 : decode prog_14_method_8_code 19 = .ok (.ireturn, 1) := by decide +kernel
theorem d_Mo_implement_0 : decode prog_14_method_9_code 0 = .ok (.aload_n 0, 1) := by decide +kernel
theorem d_Mo_implement_1 : decode prog_14_method_9_code 1 = .ok (.iconst 0, 1) := by decide +kernel
theorem d_Mo_implement_2 : decode prog_14_method_9_code 2 = .ok (.iconst 5, 1) := by decide +kernel
theorem d_Mo_implement_3 : decode prog_14_method_9_code 3 = .ok (.invokevirtual 69, 3) := by decide +kernel
theorem d_Mo_implement_6 : decode prog_14_method_9_code 6 = .ok (.istore_n 2, 1) := by decide +kernel
theorem d_Mo_implement_7 : decode prog_14_method_9_code 7 = .ok (.iload_n 2, 1) := by decide +kernel
theorem d_Mo_implement_8 : decode prog_14_method_9_code 8 = .ok (.iconst 3, 1) := by decide +kernel
theorem d_Mo_implement_9 : decode prog_14_method_9_code 9 = .ok (.if_icmp .ne 5, 3) := by decide +kernel
theorem d_Mo_implement_12 : decode prog_14_method_9_code 12 = .ok (.iconst 0, 1) := by decide +kernel
theorem d_Mo_implement_13 : decode prog_14_method_9_code 13 = .ok (.ireturn, 1) := by decide +kernel
theorem d_Mo_implement_14 : decode prog_14_method_9_code 14 = .ok (.aload_n 0, 1) := by decide +kernel
theorem d_Mo_implement_15 : decode prog_14_method_9_code 15 = .ok (.iconst 0, 1) := by decide +kernel
theorem d_Mo_implement_16 : decode prog_14_method_9_code 16 = .ok (.bipush 6, 2) := by decide +kernel
theorem d_Mo_implement_18 : decode prog_14_method_9_code 18 = .ok (.iload_n 2, 1) := by decide +kernel
theorem d_Mo_implement_19 : decode prog_14_method_9_code 19 = .ok (.iadd, 1) := by decide +kernel
theorem d_Mo_implement_20 : decode prog_14_method_9_code 20 = .ok (.iload_n 1, 1) := by decide +kernel
theorem d_Mo_implement_21 : decode prog_14_method_9_code 21 = .ok (.invokevirtual 73, 3) := by decide +kernel
theorem d_Mo_implement_24 : decode prog_14_method_9_code 24 = .ok (.aload_n 0, 1) := by decide +kernel
theorem d_Mo_implement_25 : decode prog_14_method_9_code 25 = .ok (.iconst 0, 1) := by decide +kernel
theorem d_Mo_implement_26 : decode prog_14_method_9_code 26 = .ok (.iconst 5, 1) := by decide +kernel
theorem d_Mo_implement_27 : decode prog_14_method_9_code 27 = .ok (.iload_n 2, 1) := by decide +kernel
theorem d_Mo_implement_28 : decode prog_14_method_9_code 28 = .ok (.iconst 1, 1) := by decide +kernel
theorem d_Mo_implement_29 : decode prog_14_method_9_code 29 = .ok (.iadd, 1) := by decide +kernel
theorem d_Mo_implement_30 : decode prog_14_method_9_code 30 = .ok (.invokevirtual 73, 3) := by decide +kernel
theorem d_Mo_implement_33 : decode prog_14_method_9_code 33 = .ok (.iconst 1, 1) := by decide +kernel
theorem d_Mo_implement_34 : decode prog_14_method_9_code 34 = .ok (.ireturn, 1) := by decide +kernel
theorem d_Mo_field_0 : decode prog_14_method_10_code 0 = .ok (.aload_n 0, 1) := by decide +kernel
theorem d_Mo_field_1 : decode prog_14_method_10_code 1 = .ok (.iconst 0, 1) := by decide +kernel
theorem d_Mo_field_2 : decode prog_14_method_10_code 2 = .ok (.bipush 9, 2) := by decide +kernel
theorem d_Mo_field_4 : decode prog_14_method_10_code 4 = .ok (.invokevirtual 69, 3) := by decide +kernel
theorem d_Mo_field_7 : decode prog_14_method_10_code 7 = .ok (.istore 4, 2) := by decide +kernel
theorem d_Mo_field_9 : decode prog_14_method_10_code 9 = .ok (.iload 4, 2) := by decide +kernel
theorem d_Mo_field_11 : decode prog_14_method_10_code 11 = .ok (.iconst 4, 1) := by decide +kernel
theorem d_Mo_field_12 : decode prog_14_method_10_code 12 = .ok (.if_icmp .ne 5, 3) := by decide +kernel
theorem d_Mo_field_15 : decode prog_14_method_10_code 15 = .ok (.iconst 0, 1) := by decide +kernel
theorem d_Mo_field_16 : decode prog_14_method_10_code 16 = .ok (.ireturn, 1) := by decide +kernel
theorem d_Mo_field_17 : decode prog_14_method_10_code 17 = .ok (.aload_n 0, 1) := by decide +kernel
theorem d_Mo_field_18 : decode prog_14_method_10_code 18 = .ok (.iconst 0, 1) := by decide +kernel
theorem d_Mo_field_19 : decode prog_14_method_10_code 19 = .ok (.bipush 10, 2) := by decide +kernel
theorem d_Mo_field_21 : decode prog_14_method_10_code 21 = .ok (.iconst 3, 1) := by decide +kernel
theorem d_Mo_field_22 : decode prog_14_method_10_code 22 = .ok (.iload 4, 2) := by decide +kernel
theorem d_Mo_field_24 : decode prog_14_method_10_code 24 = .ok (.imul, 1) := by decide +kernel
theorem d_Mo_field_25 : decode prog_14_method_10_code 25 = .ok (.iadd, 1) := by decide +kernel
theorem d_Mo_field_26 : decode prog_14_method_10_code 26 = .ok (.iload_n 1, 1) := by decide +kernel
theorem d_Mo_field_27 : decode prog_14_method_10_code 27 = .ok (.invokevirtual 73, 3) := by decide +kernel
theorem d_Mo_field_30 : decode prog_14_method_10_code 30 = .ok (.aload_n 0, 1) := by decide +kernel
theorem d_Mo_field_31 : decode prog_14_method_10_code 31 = .ok (.iconst 0, 1) := by decide +kernel
theorem d_Mo_field_32 : decode prog_14_method_10_code 32 = .ok (.bipush 11, 2) := by decide +kernel
theorem d_Mo_field_34 : decode prog_14_method_10_code 34 = .ok (.iconst 3, 1) := by decide +kernel
theorem d_Mo_field_35 : decode prog_14_method_10_code 35 = .ok (.iload 4, 2) := by decide +kernel
theorem d_Mo_field_37 : decode prog_14_method_10_code 37 = .ok (.imul, 1) := by decide +kernel
theorem d_Mo_field_38 : decode prog_14_method_10_code 38 = .ok (.iadd, 1) := by decide +kernel
theorem d_Mo_field_39 : decode prog_14_method_10_code 39 = .ok (.iload_n 2, 1) := by decide +kernel
theorem d_Mo_field_40 : decode prog_14_method_10_code 40 = .ok (.invokevirtual 73, 3) := by decide +kernel
theorem d_Mo_field_43 : decode prog_14_method_10_code 43 = .ok (.aload_n 0, 1) := by decide +kernel
theorem d_Mo_field_44 : decode prog_14_method_10_code 44 = .ok (.iconst 0, 1) := by decide +kernel
theorem d_Mo_field_45 : decode prog_14_method_10_code 45 = .ok (.bipush 12, 2) := by decide +kernel
theorem d_Mo_field_47 : decode prog_14_method_10_code 47 = .ok (.iconst 3, 1) := by decide +kernel
theorem d_Mo_field_48 : decode prog_14_method_10_code 48 = .ok (.iload 4, 2) := by decide +kernel
theorem d_Mo_field_50 : decode prog_14_method_10_code 50 = .ok (.imul, 1) := by decide +kernel
theorem d_Mo_field_51 : decode prog_14_method_10_code 51 = .ok (.iadd, 1) := by decide +kernel
theorem d_Mo_field_52 : decode prog_14_method_10_code 52 = .ok (.iload_n 3, 1) := by decide +kernel
theorem d_Mo_field_53 : decode prog_14_method_10_code 53 = .ok (.invokevirtual 73, 3) := by decide +kernel
theorem d_Mo_field_56 : decode prog_14_method_10_code 56 = .ok (.aload_n 0, 1) := by decide +kernel
theorem d_Mo_field_57 : decode prog_14_method_10_code 57 = .ok (.iconst 0, 1) := by decide +kernel
theorem d_Mo_field_58 : decode prog_14_method_10_code 58 = .ok (.bipush 9, 2) := by decide +kernel
theorem d_Mo_field_60 : decode prog_14_method_10_code 60 = .ok (.iload 4, 2) := by decide +kernel
theorem d_Mo_field_62 : decode prog_14_method_10_code 62 = .ok (.iconst 1, 1) := by decide +kernel
theorem d_Mo_field_63 : decode prog_14_method_10_code 63 = .ok (.iadd, 1) := by decide +kernel
theorem d_Mo_field_64 : decode prog_14_method_10_code 64 = .ok (.invokevirtual 73, 3) := by decide +kernel
theorem d_Mo_field_67 : decode prog_14_method_10_code 67 = .ok (.iconst 1, 1) := by decide +kernel
theorem d_Mo_field_68 : decode prog_14_method_10_code 68 = .ok (.ireturn, 1) := by decide +kernel
theorem d_Mo_methodAt_0 : decode prog_14_method_11_code 0 = .ok (.bipush 23, 2) := by decide +kernel
theorem d_Mo_methodAt_2 : decode prog_14_method_11_code 2 = .ok (.bipush 21, 2) := by decide +kernel
theorem d_Mo_methodAt_4 : decode prog_14_method_11_code 4 = .ok (.iload_n 0, 1) := by decide +kernel
theorem d_Mo_methodAt_5 : decode prog_14_method_11_code 5 = .ok (.imul, 1) := by decide +kernel
theorem d_Mo_methodAt_6 : decode prog_14_method_11_code 6 = .ok (.iadd, 1) := by decide +kernel
theorem d_Mo_methodAt_7 : decode prog_14_method_11_code 7 = .ok (.ireturn, 1) := by decide +kernel
theorem d_Mo_method_0 : decode prog_14_method_12_code 0 = .ok (.aload_n 0, 1) := by decide +kernel
theorem d_Mo_method_1 : decode prog_14_method_12_code 1 = .ok (.iconst 0, 1) := by decide +kernel
theorem d_Mo_method_2 : decode prog_14_method_12_code 2 = .ok (.bipush 22, 2) := by decide +kernel
theorem d_Mo_method_4 : decode prog_14_method_12_code 4 = .ok (.invokevirtual 69, 3) := by decide +kernel
theorem d_Mo_method_7 : decode prog_14_method_12_code 7 = .ok (.istore_n 3, 1) := by decide +kernel
theorem d_Mo_method_8 : decode prog_14_method_12_code 8 = .ok (.iload_n 3, 1) := by decide +kernel
theorem d_Mo_method_9 : decode prog_14_method_12_code 9 = .ok (.iconst 4, 1) := by decide +kernel
theorem d_Mo_method_10 : decode prog_14_method_12_code 10 = .ok (.if_icmp .ne 5, 3) := by decide +kernel
theorem d_Mo_method_13 : decode prog_14_method_12_code 13 = .ok (.iconst 0, 1) := by decide +kernel
theorem d_Mo_method_14 : decode prog_14_method_12_code 14 = .ok (.ireturn, 1) := by decide +kernel
theorem d_Mo_method_15 : decode prog_14_method_12_code 15 = .ok (.aload_n 0, 1) := by decide +kernel
theorem d_Mo_method_16 : decode prog_14_method_12_code 16 = .ok (.iconst 0, 1) := by decide +kernel
theorem d_Mo_method_17 : decode prog_14_method_12_code 17 = .ok (.iload_n 3, 1) := by decide +kernel
theorem d_Mo_method_18 : decode prog_14_method_12_code 18 = .ok (.invokestatic 85, 3) := by decide +kernel
theorem d_Mo_method_21 : decode prog_14_method_12_code 21 = .ok (.iload_n 1, 1) := by decide +kernel
theorem d_Mo_method_22 : decode prog_14_method_12_code 22 = .ok (.invokevirtual 73, 3) := by decide +kernel
theorem d_Mo_method_25 : decode prog_14_method_12_code 25 = .ok (.aload_n 0, 1) := by decide +kernel
theorem d_Mo_method_26 : decode prog_14_method_12_code 26 = .ok (.iconst 0, 1) := by decide +kernel
theorem d_Mo_method_27 : decode prog_14_method_12_code 27 = .ok (.iload_n 3, 1) := by decide +kernel
theorem d_Mo_method_28 : decode prog_14_method_12_code 28 = .ok (.invokestatic 85, 3) := by decide +kernel
theorem d_Mo_method_31 : decode prog_14_method_12_code 31 = .ok (.iconst 1, 1) := by decide +kernel
theorem d_Mo_method_32 : decode prog_14_method_12_code 32 = .ok (.iadd, 1) := by decide +kernel
theorem d_Mo_method_33 : decode prog_14_method_12_code 33 = .ok (.iload_n 2, 1) := by decide +kernel
theorem d_Mo_method_34 : decode prog_14_method_12_code 34 = .ok (.invokevirtual 73, 3) := by decide +kernel
theorem d_Mo_method_37 : decode prog_14_method_12_code 37 = .ok (.aload_n 0, 1) := by decide +kernel
theorem d_Mo_method_38 : decode prog_14_method_12_code 38 = .ok (.iconst 0, 1) := by decide +kernel
theorem d_Mo_method_39 : decode prog_14_method_12_code 39 = .ok (.iload_n 3, 1) := by decide +kernel
theorem d_Mo_method_40 : decode prog_14_method_12_code 40 = .ok (.invokestatic 85, 3) := by decide +kernel
theorem d_Mo_method_43 : decode prog_14_method_12_code 43 = .ok (.iconst 2, 1) := by decide +kernel
theorem d_Mo_method_44 : decode prog_14_method_12_code 44 = .ok (.iadd, 1) := by decide +kernel
theorem d_Mo_method_45 : decode prog_14_method_12_code 45 = .ok (.iconst 0, 1) := by decide +kernel
theorem d_Mo_method_46 : decode prog_14_method_12_code 46 = .ok (.invokevirtual 73, 3) := by decide +kernel
theorem d_Mo_method_49 : decode prog_14_method_12_code 49 = .ok (.aload_n 0, 1) := by decide +kernel
theorem d_Mo_method_50 : decode prog_14_method_12_code 50 = .ok (.iconst 0, 1) := by decide +kernel
theorem d_Mo_method_51 : decode prog_14_method_12_code 51 = .ok (.bipush 22, 2) := by decide +kernel
theorem d_Mo_method_53 : decode prog_14_method_12_code 53 = .ok (.iload_n 3, 1) := by decide +kernel
theorem d_Mo_method_54 : decode prog_14_method_12_code 54 = .ok (.iconst 1, 1) := by decide +kernel
theorem d_Mo_method_55 : decode prog_14_method_12_code 55 = .ok (.iadd, 1) := by decide +kernel
theorem d_Mo_method_56 : decode prog_14_method_12_code 56 = .ok (.invokevirtual 73, 3) := by decide +kernel
theorem d_Mo_method_59 : decode prog_14_method_12_code 59 = .ok (.aload_n 0, 1) := by decide +kernel
theorem d_Mo_method_60 : decode prog_14_method_12_code 60 = .ok (.iload_n 3, 1) := by decide +kernel
theorem d_Mo_method_61 : decode prog_14_method_12_code 61 = .ok (.putfield 13, 3) := by decide +kernel
theorem d_Mo_method_64 : decode prog_14_method_12_code 64 = .ok (.iconst 1, 1) := by decide +kernel
theorem d_Mo_method_65 : decode prog_14_method_12_code 65 = .ok (.ireturn, 1) := by decide +kernel
theorem d_Mo_choose_0 : decode prog_14_method_13_code 0 = .ok (.iload_n 1, 1) := by decide +kernel
theorem d_Mo_choose_1 : decode prog_14_method_13_code 1 = .ok (.ifCond .lt 14, 3) := by decide +kernel
theorem d_Mo_choose_4 : decode prog_14_method_13_code 4 = .ok (.iload_n 1, 1) := by decide +kernel
theorem d_Mo_choose_5 : decode prog_14_method_13_code 5 = .ok (.aload_n 0, 1) := by decide +kernel
theorem d_Mo_choose_6 : decode prog_14_method_13_code 6 = .ok (.iconst 0, 1) := by decide +kernel
theorem d_Mo_choose_7 : decode prog_14_method_13_code 7 = .ok (.bipush 22, 2) := by decide +kernel
theorem d_Mo_choose_9 : decode prog_14_method_13_code 9 = .ok (.invokevirtual 69, 3) := by decide +kernel
theorem d_Mo_choose_12 : decode prog_14_method_13_code 12 = .ok (.if_icmp .lt 5, 3) := by decide +kernel
theorem d_Mo_choose_15 : decode prog_14_method_13_code 15 = .ok (.iconst 0, 1) := by decide +kernel
theorem d_Mo_choose_16 : decode prog_14_method_13_code 16 = .ok (.ireturn, 1) := by decide +kernel
theorem d_Mo_choose_17 : decode prog_14_method_13_code 17 = .ok (.aload_n 0, 1) := by decide +kernel
theorem d_Mo_choose_18 : decode prog_14_method_13_code 18 = .ok (.iload_n 1, 1) := by decide +kernel
theorem d_Mo_choose_19 : decode prog_14_method_13_code 19 = .ok (.putfield 13, 3) := by decide +kernel
theorem d_Mo_choose_22 : decode prog_14_method_13_code 22 = .ok (.aload_n 0, 1) := by decide +kernel
theorem d_Mo_choose_23 : decode prog_14_method_13_code 23 = .ok (.iconst 0, 1) := by decide +kernel
theorem d_Mo_choose_24 : decode prog_14_method_13_code 24 = .ok (.iload_n 1, 1) := by decide +kernel
theorem d_Mo_choose_25 : decode prog_14_method_13_code 25 = .ok (.invokestatic 85, 3) := by decide +kernel
theorem d_Mo_choose_28 : decode prog_14_method_13_code 28 = .ok (.iconst 2, 1) := by decide +kernel
theorem d_Mo_choose_29 : decode prog_14_method_13_code 29 = .ok (.iadd, 1) := by decide +kernel
theorem d_Mo_choose_30 : decode prog_14_method_13_code 30 = .ok (.iconst 0, 1) := by decide +kernel
theorem d_Mo_choose_31 : decode prog_14_method_13_code 31 = .ok (.invokevirtual 73, 3) := by decide +kernel
theorem d_Mo_choose_34 : decode prog_14_method_13_code 34 = .ok (.iconst 1, 1) := by decide +kernel
theorem d_Mo_choose_35 : decode prog_14_method_13_code 35 = .ok (.ireturn, 1) := by decide +kernel
theorem d_Mo_code_0 : decode prog_14_method_14_code 0 = .ok (.aload_n 0, 1) := by decide +kernel
theorem d_Mo_code_1 : decode prog_14_method_14_code 1 = .ok (.getfield 13, 3) := by decide +kernel
theorem d_Mo_code_4 : decode prog_14_method_14_code 4 = .ok (.iconst (-1), 1) := by decide +kernel
theorem d_Mo_code_5 : decode prog_14_method_14_code 5 = .ok (.if_icmp .ne 5, 3) := by decide +kernel
theorem d_Mo_code_8 : decode prog_14_method_14_code 8 = .ok (.iconst 0, 1) := by decide +kernel
theorem d_Mo_code_9 : decode prog_14_method_14_code 9 = .ok (.ireturn, 1) := by decide +kernel
theorem d_Mo_code_10 : decode prog_14_method_14_code 10 = .ok (.aload_n 0, 1) := by decide +kernel
theorem d_Mo_code_11 : decode prog_14_method_14_code 11 = .ok (.getfield 13, 3) := by decide +kernel
theorem d_Mo_code_14 : decode prog_14_method_14_code 14 = .ok (.invokestatic 85, 3) := by decide +kernel
theorem d_Mo_code_17 : decode prog_14_method_14_code 17 = .ok (.iconst 2, 1) := by decide +kernel
theorem d_Mo_code_18 : decode prog_14_method_14_code 18 = .ok (.iadd, 1) := by decide +kernel
theorem d_Mo_code_19 : decode prog_14_method_14_code 19 = .ok (.istore 4, 2) := by decide +kernel
theorem d_Mo_code_21 : decode prog_14_method_14_code 21 = .ok (.aload_n 0, 1) := by decide +kernel
theorem d_Mo_code_22 : decode prog_14_method_14_code 22 = .ok (.iconst 0, 1) := by decide +kernel
theorem d_Mo_code_23 : decode prog_14_method_14_code 23 = .ok (.iload 4, 2) := by decide +kernel
theorem d_Mo_code_25 : decode prog_14_method_14_code 25 = .ok (.invokevirtual 69, 3) := by decide +kernel
theorem d_Mo_code_28 : decode prog_14_method_14_code 28 = .ok (.istore 5, 2) := by decide +kernel
theorem d_Mo_code_30 : decode prog_14_method_14_code 30 = .ok (.iload 5, 2) := by decide +kernel
theorem d_Mo_code_32 : decode prog_14_method_14_code 32 = .ok (.bipush 6, 2) := by decide +kernel
theorem d_Mo_code_34 : decode prog_14_method_14_code 34 = .ok (.if_icmp .ne 5, 3) := by decide +kernel
theorem d_Mo_code_37 : decode prog_14_method_14_code 37 = .ok (.iconst 0, 1) := by decide +kernel
theorem d_Mo_code_38 : decode prog_14_method_14_code 38 = .ok (.ireturn, 1) := by decide +kernel
theorem d_Mo_code_39 : decode prog_14_method_14_code 39 = .ok (.aload_n 0, 1) := by decide +kernel
theorem d_Mo_code_40 : decode prog_14_method_14_code 40 = .ok (.iconst 0, 1) := by decide +kernel
theorem d_Mo_code_41 : decode prog_14_method_14_code 41 = .ok (.iload 4, 2) := by decide +kernel
theorem d_Mo_code_43 : decode prog_14_method_14_code 43 = .ok (.iconst 1, 1) := by decide +kernel
theorem d_Mo_code_44 : decode prog_14_method_14_code 44 = .ok (.iadd, 1) := by decide +kernel
theorem d_Mo_code_45 : decode prog_14_method_14_code 45 = .ok (.iconst 3, 1) := by decide +kernel
theorem d_Mo_code_46 : decode prog_14_method_14_code 46 = .ok (.iload 5, 2) := by decide +kernel
theorem d_Mo_code_48 : decode prog_14_method_14_code 48 = .ok (.imul, 1) := by decide +kernel
theorem d_Mo_code_49 : decode prog_14_method_14_code 49 = .ok (.iadd, 1) := by decide +kernel
theorem d_Mo_code_50 : decode prog_14_method_14_code 50 = .ok (.iload_n 1, 1) := by decide +kernel
theorem d_Mo_code_51 : decode prog_14_method_14_code 51 = .ok (.invokevirtual 73, 3) := by decide +kernel
theorem d_Mo_code_54 : decode prog_14_method_14_code 54 = .ok (.aload_n 0, 1) := by decide +kernel
theorem d_Mo_code_55 : decode prog_14_method_14_code 55 = .ok (.iconst 0, 1) := by decide +kernel
theorem d_Mo_code_56 : decode prog_14_method_14_code 56 = .ok (.iload 4, 2) := by decide +kernel
theorem d_Mo_code_58 : decode prog_14_method_14_code 58 = .ok (.iconst 2, 1) := by decide +kernel
theorem d_Mo_code_59 : decode prog_14_method_14_code 59 = .ok (.iadd, 1) := by decide +kernel
theorem d_Mo_code_60 : decode prog_14_method_14_code 60 = .ok (.iconst 3, 1) := by decide +kernel
theorem d_Mo_code_61 : decode prog_14_method_14_code 61 = .ok (.iload 5, 2) := by decide +kernel
theorem d_Mo_code_63 : decode prog_14_method_14_code 63 = .ok (.imul, 1) := by decide +kernel
theorem d_Mo_code_64 : decode prog_14_method_14_code 64 = .ok (.iadd, 1) := by decide +kernel
theorem d_Mo_code_65 : decode prog_14_method_14_code 65 = .ok (.iload_n 2, 1) := by decide +kernel
theorem d_Mo_code_66 : decode prog_14_method_14_code 66 = .ok (.invokevirtual 73, 3) := by decide +kernel
theorem d_Mo_code_69 : decode prog_14_method_14_code 69 = .ok (.aload_n 0, 1) := by decide +kernel
theorem d_Mo_code_70 : decode prog_14_method_14_code 70 = .ok (.iconst 0, 1) := by decide +kernel
theorem d_Mo_code_71 : decode prog_14_method_14_code 71 = .ok (.iload 4, 2) := by decide +kernel
theorem d_Mo_code_73 : decode prog_14_method_14_code 73 = .ok (.iconst 3, 1) := by decide +kernel
theorem d_Mo_code_74 : decode prog_14_method_14_code 74 = .ok (.iadd, 1) := by decide +kernel
theorem d_Mo_code_75 : decode prog_14_method_14_code 75 = .ok (.iconst 3, 1) := by decide +kernel
theorem d_Mo_code_76 : decode prog_14_method_14_code 76 = .ok (.iload 5, 2) := by decide +kernel
theorem d_Mo_code_78 : decode prog_14_method_14_code 78 = .ok (.imul, 1) := by decide +kernel
theorem d_Mo_code_79 : decode prog_14_method_14_code 79 = .ok (.iadd, 1) := by decide +kernel
theorem d_Mo_code_80 : decode prog_14_method_14_code 80 = .ok (.iload_n 3, 1) := by decide +kernel
theorem d_Mo_code_81 : decode prog_14_method_14_code 81 = .ok (.invokevirtual 73, 3) := by decide +kernel
theorem d_Mo_code_84 : decode prog_14_method_14_code 84 = .ok (.aload_n 0, 1) := by decide +kernel
theorem d_Mo_code_85 : decode prog_14_method_14_code 85 = .ok (.iconst 0, 1) := by decide +kernel
theorem d_Mo_code_86 : decode prog_14_method_14_code 86 = .ok (.iload 4, 2) := by decide +kernel
theorem d_Mo_code_88 : decode prog_14_method_14_code 88 = .ok (.iload 5, 2) := by decide +kernel
theorem d_Mo_code_90 : decode prog_14_method_14_code 90 = .ok (.iconst 1, 1) := by decide +kernel
theorem d_Mo_code_91 : decode prog_14_method_14_code 91 = .ok (.iadd, 1) := by decide +kernel
theorem d_Mo_code_92 : decode prog_14_method_14_code 92 = .ok (.invokevirtual 73, 3) := by decide +kernel
theorem d_Mo_code_95 : decode prog_14_method_14_code 95 = .ok (.iconst 1, 1) := by decide +kernel
theorem d_Mo_code_96 : decode prog_14_method_14_code 96 = .ok (.ireturn, 1) := by decide +kernel
theorem d_Mo_transformer_0 : decode prog_14_method_15_code 0 = .ok (.iconst 0, 1) := by decide +kernel
theorem d_Mo_transformer_1 : decode prog_14_method_15_code 1 = .ok (.istore 5, 2) := by decide +kernel
theorem d_Mo_transformer_3 : decode prog_14_method_15_code 3 = .ok (.iload 5, 2) := by decide +kernel
theorem d_Mo_transformer_5 : decode prog_14_method_15_code 5 = .ok (.iconst 5, 1) := by decide +kernel
theorem d_Mo_transformer_6 : decode prog_14_method_15_code 6 = .ok (.if_icmp .ge 19, 3) := by decide +kernel
theorem d_Mo_transformer_9 : decode prog_14_method_15_code 9 = .ok (.aload_n 0, 1) := by decide +kernel
theorem d_Mo_transformer_10 : decode prog_14_method_15_code 10 = .ok (.getfield 29, 3) := by decide +kernel
theorem d_Mo_transformer_13 : decode prog_14_method_15_code 13 = .ok (.iload 5, 2) := by decide +kernel
theorem d_Mo_transformer_15 : decode prog_14_method_15_code 15 = .ok (.baload, 1) := by decide +kernel
theorem d_Mo_transformer_16 : decode prog_14_method_15_code 16 = .ok (.ifCond .eq 9, 3) := by decide +kernel
theorem d_Mo_transformer_19 : decode prog_14_method_15_code 19 = .ok (.iinc 5 1, 3) := by decide +kernel
theorem d_Mo_transformer_22 : decode prog_14_method_15_code 22 = .ok (.goto (-19), 3) := by decide +kernel
theorem d_Mo_transformer_25 : decode prog_14_method_15_code 25 = .ok (.iload 5, 2) := by decide +kernel
theorem d_Mo_transformer_27 : decode prog_14_method_15_code 27 = .ok (.iconst 5, 1) := by decide +kernel
theorem d_Mo_transformer_28 : decode prog_14_method_15_code 28 = .ok (.if_icmp .eq 12, 3) := by decide +kernel
theorem d_Mo_transformer_31 : decode prog_14_method_15_code 31 = .ok (.iload_n 1, 1) := by decide +kernel
theorem d_Mo_transformer_32 : decode prog_14_method_15_code 32 = .ok (.ifCond .lt 8, 3) := by decide +kernel
theorem d_Mo_transformer_35 : decode prog_14_method_15_code 35 = .ok (.iload_n 1, 1) := by decide +kernel
theorem d_Mo_transformer_36 : decode prog_14_method_15_code 36 = .ok (.iconst 4, 1) := by decide +kernel
theorem d_Mo_transformer_37 : decode prog_14_method_15_code 37 = .ok (.if_icmp .le 5, 3) := by decide +kernel
theorem d_Mo_transformer_40 : decode prog_14_method_15_code 40 = .ok (.iconst (-1), 1) := by decide +kernel
theorem d_Mo_transformer_41 : decode prog_14_method_15_code 41 = .ok (.ireturn, 1) := by decide +kernel
theorem d_Mo_transformer_42 : decode prog_14_method_15_code 42 = .ok (.aload_n 0, 1) := by decide +kernel
theorem d_Mo_transformer_43 : decode prog_14_method_15_code 43 = .ok (.getfield 29, 3) := by decide +kernel
theorem d_Mo_transformer_46 : decode prog_14_method_15_code 46 = .ok (.iload 5, 2) := by decide +kernel
theorem d_Mo_transformer_48 : decode prog_14_method_15_code 48 = .ok (.iconst 1, 1) := by decide +kernel
theorem d_Mo_transformer_49 : decode prog_14_method_15_code 49 = .ok (.bastore, 1) := by decide +kernel
theorem d_Mo_transformer_50 : decode prog_14_method_15_code 50 = .ok (.aload_n 0, 1) := by decide +kernel
theorem d_Mo_transformer_51 : decode prog_14_method_15_code 51 = .ok (.getfield 33, 3) := by decide +kernel
theorem d_Mo_transformer_54 : decode prog_14_method_15_code 54 = .ok (.iload 5, 2) := by decide +kernel
theorem d_Mo_transformer_56 : decode prog_14_method_15_code 56 = .ok (.iload_n 1, 1) := by decide +kernel
theorem d_Mo_transformer_57 : decode prog_14_method_15_code 57 = .ok (.iastore, 1) := by decide +kernel
theorem d_Mo_transformer_58 : decode prog_14_method_15_code 58 = .ok (.aload_n 0, 1) := by decide +kernel
theorem d_Mo_transformer_59 : decode prog_14_method_15_code 59 = .ok (.getfield 36, 3) := by decide +kernel
theorem d_Mo_transformer_62 : decode prog_14_method_15_code 62 = .ok (.iload 5, 2) := by decide +kernel
theorem d_Mo_transformer_64 : decode prog_14_method_15_code 64 = .ok (.iload_n 2, 1) := by decide +kernel
theorem d_Mo_transformer_65 : decode prog_14_method_15_code 65 = .ok (.iastore, 1) := by decide +kernel
theorem d_Mo_transformer_66 : decode prog_14_method_15_code 66 = .ok (.aload_n 0, 1) := by decide +kernel
theorem d_Mo_transformer_67 : decode prog_14_method_15_code 67 = .ok (.getfield 39, 3) := by decide +kernel
theorem d_Mo_transformer_70 : decode prog_14_method_15_code 70 = .ok (.iload 5, 2) := by decide +kernel
theorem d_Mo_transformer_72 : decode prog_14_method_15_code 72 = .ok (.iload_n 3, 1) := by decide +kernel
theorem d_Mo_transformer_73 : decode prog_14_method_15_code 73 = .ok (.ifCond .lt 8, 3) := by decide +kernel
theorem d_Mo_transformer_76 : decode prog_14_method_15_code 76 = .ok (.iload_n 3, 1) := by decide +kernel
theorem d_Mo_transformer_77 : decode prog_14_method_15_code 77 = .ok (.iconst 5, 1) := by decide +kernel
theorem d_Mo_transformer_78 : decode prog_14_method_15_code 78 = .ok (.if_icmp .le 7, 3) := by decide +kernel
theorem d_Mo_transformer_81 : decode prog_14_method_15_code 81 = .ok (.iconst (-1), 1) := by decide +kernel
theorem d_Mo_transformer_82 : decode prog_14_method_15_code 82 = .ok (.goto 4, 3) := by decide +kernel
theorem d_Mo_transformer_85 : decode prog_14_method_15_code 85 = .ok (.iload_n 3, 1) := by decide +kernel
theorem d_Mo_transformer_86 : decode prog_14_method_15_code 86 = .ok (.iastore, 1) := by decide +kernel
theorem d_Mo_transformer_87 : decode prog_14_method_15_code 87 = .ok (.aload_n 0, 1) := by decide +kernel
theorem d_Mo_transformer_88 : decode prog_14_method_15_code 88 = .ok (.getfield 42, 3) := by decide +kernel
theorem d_Mo_transformer_91 : decode prog_14_method_15_code 91 = .ok (.iload 5, 2) := by decide +kernel
theorem d_Mo_transformer_93 : decode prog_14_method_15_code 93 = .ok (.iload 4, 2) := by decide +kernel
theorem d_Mo_transformer_95 : decode prog_14_method_15_code 95 = .ok (.bastore, 1) := by decide +kernel
theorem d_Mo_transformer_96 : decode prog_14_method_15_code 96 = .ok (.iload 5, 2) := by decide +kernel
theorem d_Mo_transformer_98 : decode prog_14_method_15_code 98 = .ok (.ireturn, 1) := by decide +kernel
theorem d_Mo_remove_0 : decode prog_14_method_16_code 0 = .ok (.iload_n 1, 1) := by decide +kernel
theorem d_Mo_remove_1 : decode prog_14_method_16_code 1 = .ok (.ifCond .lt 17, 3) := by decide +kernel
theorem d_Mo_remove_4 : decode prog_14_method_16_code 4 = .ok (.iload_n 1, 1) := by decide +kernel
theorem d_Mo_remove_5 : decode prog_14_method_16_code 5 = .ok (.iconst 4, 1) := by decide +kernel
theorem d_Mo_remove_6 : decode prog_14_method_16_code 6 = .ok (.if_icmp .gt 12, 3) := by decide +kernel
theorem d_Mo_remove_9 : decode prog_14_method_16_code 9 = .ok (.aload_n 0, 1) := by decide +kernel
theorem d_Mo_remove_10 : decode prog_14_method_16_code 10 = .ok (.getfield 29, 3) := by decide +kernel
theorem d_Mo_remove_13 : decode prog_14_method_16_code 13 = .ok (.iload_n 1, 1) := by decide +kernel
theorem d_Mo_remove_14 : decode prog_14_method_16_code 14 = .ok (.baload, 1) := by decide +kernel
theorem d_Mo_remove_15 : decode prog_14_method_16_code 15 = .ok (.ifCond .ne 5, 3) := by decide +kernel
theorem d_Mo_remove_18 : decode prog_14_method_16_code 18 = .ok (.iconst 0, 1) := by decide +kernel
theorem d_Mo_remove_19 : decode prog_14_method_16_code 19 = .ok (.ireturn, 1) := by decide +kernel
theorem d_Mo_remove_20 : decode prog_14_method_16_code 20 = .ok (.aload_n 0, 1) := by decide +kernel
theorem d_Mo_remove_21 : decode prog_14_method_16_code 21 = .ok (.getfield 29, 3) := by decide +kernel
theorem d_Mo_remove_24 : decode prog_14_method_16_code 24 = .ok (.iload_n 1, 1) := by decide +kernel
theorem d_Mo_remove_25 : decode prog_14_method_16_code 25 = .ok (.iconst 0, 1) := by decide +kernel
theorem d_Mo_remove_26 : decode prog_14_method_16_code 26 = .ok (.bastore, 1) := by decide +kernel
theorem d_Mo_remove_27 : decode prog_14_method_16_code 27 = .ok (.iconst 1, 1) := by decide +kernel
theorem d_Mo_remove_28 : decode prog_14_method_16_code 28 = .ok (.ireturn, 1) := by decide +kernel
theorem d_Mo_find_0 : decode prog_14_method_17_code 0 = .ok (.iconst 0, 1) := by decide +kernel
theorem d_Mo_find_1 : decode prog_14_method_17_code 1 = .ok (.istore_n 3, 1) := by decide +kernel
theorem d_Mo_find_2 : decode prog_14_method_17_code 2 = .ok (.iload_n 3, 1) := by decide +kernel
theorem d_Mo_find_3 : decode prog_14_method_17_code 3 = .ok (.aload_n 0, 1) := by decide +kernel
theorem d_Mo_find_4 : decode prog_14_method_17_code 4 = .ok (.iload_n 1, 1) := by decide +kernel
theorem d_Mo_find_5 : decode prog_14_method_17_code 5 = .ok (.bipush 22, 2) := by decide +kernel
theorem d_Mo_find_7 : decode prog_14_method_17_code 7 = .ok (.invokevirtual 69, 3) := by decide +kernel
theorem d_Mo_find_10 : decode prog_14_method_17_code 10 = .ok (.if_icmp .ge 27, 3) := by decide +kernel
theorem d_Mo_find_13 : decode prog_14_method_17_code 13 = .ok (.aload_n 0, 1) := by decide +kernel
theorem d_Mo_find_14 : decode prog_14_method_17_code 14 = .ok (.iload_n 1, 1) := by decide +kernel
theorem d_Mo_find_15 : decode prog_14_method_17_code 15 = .ok (.iload_n 3, 1) := by decide +kernel
theorem d_Mo_find_16 : decode prog_14_method_17_code 16 = .ok (.invokestatic 85, 3) := by decide +kernel
theorem d_Mo_find_19 : decode prog_14_method_17_code 19 = .ok (.invokevirtual 69, 3) := by decide +kernel
theorem d_Mo_find_22 : decode prog_14_method_17_code 22 = .ok (.iload_n 2, 1) := by decide +kernel
theorem d_Mo_find_23 : decode prog_14_method_17_code 23 = .ok (.if_icmp .ne 8, 3) := by decide +kernel
theorem d_Mo_find_26 : decode prog_14_method_17_code 26 = .ok (.iload_n 3, 1) := by decide +kernel
theorem d_Mo_find_27 : decode prog_14_method_17_code 27 = .ok (.invokestatic 85, 3) := by decide +kernel
theorem d_Mo_find_30 : decode prog_14_method_17_code 30 = .ok (.ireturn, 1) := by decide +kernel
theorem d_Mo_find_31 : decode prog_14_method_17_code 31 = .ok (.iinc 3 1, 3) := by decide +kernel
theorem d_Mo_find_34 : decode prog_14_method_17_code 34 = .ok (.goto (-32), 3) := by decide +kernel
theorem d_Mo_find_37 : decode prog_14_method_17_code 37 = .ok (.iconst (-1), 1) := by decide +kernel
theorem d_Mo_find_38 : decode prog_14_method_17_code 38 = .ok (.ireturn, 1) := by decide +kernel
theorem d_Mo_change_0 : decode prog_14_method_18_code 0 = .ok (.aload_n 0, 1) := by decide +kernel
theorem d_Mo_change_1 : decode prog_14_method_18_code 1 = .ok (.iload_n 1, 1) := by decide +kernel
theorem d_Mo_change_2 : decode prog_14_method_18_code 2 = .ok (.bipush 22, 2) := by decide +kernel
theorem d_Mo_change_4 : decode prog_14_method_18_code 4 = .ok (.invokevirtual 69, 3) := by decide +kernel
theorem d_Mo_change_7 : decode prog_14_method_18_code 7 = .ok (.istore_n 3, 1) := by decide +kernel
theorem d_Mo_change_8 : decode prog_14_method_18_code 8 = .ok (.aload_n 0, 1) := by decide +kernel
theorem d_Mo_change_9 : decode prog_14_method_18_code 9 = .ok (.getfield 33, 3) := by decide +kernel
theorem d_Mo_change_12 : decode prog_14_method_18_code 12 = .ok (.iload_n 2, 1) := by decide +kernel
theorem d_Mo_change_13 : decode prog_14_method_18_code 13 = .ok (.iaload, 1) := by decide +kernel
theorem d_Mo_change_14 : decode prog_14_method_18_code 14 = .ok (.iconst 2, 1) := by decide +kernel
theorem d_Mo_change_15 : decode prog_14_method_18_code 15 = .ok (.if_icmp .ne 15, 3) := by decide +kernel
theorem d_Mo_change_18 : decode prog_14_method_18_code 18 = .ok (.aload_n 0, 1) := by decide +kernel
theorem d_Mo_change_19 : decode prog_14_method_18_code 19 = .ok (.iload_n 1, 1) := by decide +kernel
theorem d_Mo_change_20 : decode prog_14_method_18_code 20 = .ok (.iconst 3, 1) := by decide +kernel
theorem d_Mo_change_21 : decode prog_14_method_18_code 21 = .ok (.aload_n 0, 1) := by decide +kernel
theorem d_Mo_change_22 : decode prog_14_method_18_code 22 = .ok (.getfield 36, 3) := by decide +kernel
theorem d_Mo_change_25 : decode prog_14_method_18_code 25 = .ok (.iload_n 2, 1) := by decide +kernel
theorem d_Mo_change_26 : decode prog_14_method_18_code 26 = .ok (.iaload, 1) := by decide +kernel
theorem d_Mo_change_27 : decode prog_14_method_18_code 27 = .ok (.invokevirtual 73, 3) := by decide +kernel
theorem d_Mo_change_30 : decode prog_14_method_18_code 30 = .ok (.aload_n 0, 1) := by decide +kernel
theorem d_Mo_change_31 : decode prog_14_method_18_code 31 = .ok (.getfield 33, 3) := by decide +kernel
theorem d_Mo_change_34 : decode prog_14_method_18_code 34 = .ok (.iload_n 2, 1) := by decide +kernel
theorem d_Mo_change_35 : decode prog_14_method_18_code 35 = .ok (.iaload, 1) := by decide +kernel
theorem d_Mo_change_36 : decode prog_14_method_18_code 36 = .ok (.iconst 4, 1) := by decide +kernel
theorem d_Mo_change_37 : decode prog_14_method_18_code 37 = .ok (.if_icmp .ne 20, 3) := by decide +kernel
theorem d_Mo_change_40 : decode prog_14_method_18_code 40 = .ok (.iload_n 3, 1) := by decide +kernel
theorem d_Mo_change_41 : decode prog_14_method_18_code 41 = .ok (.ifCond .le 16, 3) := by decide +kernel
theorem d_Mo_change_44 : decode prog_14_method_18_code 44 = .ok (.aload_n 0, 1) := by decide +kernel
theorem d_Mo_change_45 : decode prog_14_method_18_code 45 = .ok (.iload_n 1, 1) := by decide +kernel
theorem d_Mo_change_46 : decode prog_14_method_18_code 46 = .ok (.bipush 23, 2) := by decide +kernel
theorem d_Mo_change_48 : decode prog_14_method_18_code 48 = .ok (.aload_n 0, 1) := by decide +kernel
theorem d_Mo_change_49 : decode prog_14_method_18_code 49 = .ok (.getfield 36, 3) := by decide +kernel
theorem d_Mo_change_52 : decode prog_14_method_18_code 52 = .ok (.iload_n 2, 1) := by decide +kernel
theorem d_Mo_change_53 : decode prog_14_method_18_code 53 = .ok (.iaload, 1) := by decide +kernel
theorem d_Mo_change_54 : decode prog_14_method_18_code 54 = .ok (.invokevirtual 73, 3) := by decide +kernel
theorem d_Mo_change_57 : decode prog_14_method_18_code 57 = .ok (.aload_n 0, 1) := by decide +kernel
theorem d_Mo_change_58 : decode prog_14_method_18_code 58 = .ok (.iload_n 1, 1) := by decide +kernel
theorem d_Mo_change_59 : decode prog_14_method_18_code 59 = .ok (.aload_n 0, 1) := by decide +kernel
theorem d_Mo_change_60 : decode prog_14_method_18_code 60 = .ok (.getfield 36, 3) := by decide +kernel
theorem d_Mo_change_63 : decode prog_14_method_18_code 63 = .ok (.iload_n 2, 1) := by decide +kernel
theorem d_Mo_change_64 : decode prog_14_method_18_code 64 = .ok (.iaload, 1) := by decide +kernel
theorem d_Mo_change_65 : decode prog_14_method_18_code 65 = .ok (.invokevirtual 89, 3) := by decide +kernel
theorem d_Mo_change_68 : decode prog_14_method_18_code 68 = .ok (.iconst (-1), 1) := by decide +kernel
theorem d_Mo_change_69 : decode prog_14_method_18_code 69 = .ok (.if_icmp .eq 7, 3) := by decide +kernel
theorem d_Mo_change_72 : decode prog_14_method_18_code 72 = .ok (.iconst 1, 1) := by decide +kernel
theorem d_Mo_change_73 : decode prog_14_method_18_code 73 = .ok (.goto 4, 3) := by decide +kernel
theorem d_Mo_change_76 : decode prog_14_method_18_code 76 = .ok (.iconst 0, 1) := by decide +kernel
theorem d_Mo_change_77 : decode prog_14_method_18_code 77 = .ok (.istore 4, 2) := by decide +kernel
theorem d_Mo_change_79 : decode prog_14_method_18_code 79 = .ok (.iconst 0, 1) := by decide +kernel
theorem d_Mo_change_80 : decode prog_14_method_18_code 80 = .ok (.istore 5, 2) := by decide +kernel
theorem d_Mo_change_82 : decode prog_14_method_18_code 82 = .ok (.iload 5, 2) := by decide +kernel
theorem d_Mo_change_84 : decode prog_14_method_18_code 84 = .ok (.iload_n 3, 1) := by decide +kernel
theorem d_Mo_change_85 : decode prog_14_method_18_code 85 = .ok (.if_icmp .ge 124, 3) := by decide +kernel
theorem d_Mo_change_88 : decode prog_14_method_18_code 88 = .ok (.iload 5, 2) := by decide +kernel
theorem d_Mo_change_90 : decode prog_14_method_18_code 90 = .ok (.invokestatic 85, 3) := by decide +kernel
theorem d_Mo_change_93 : decode prog_14_method_18_code 93 = .ok (.iconst 2, 1) := by decide +kernel
theorem d_Mo_change_94 : decode prog_14_method_18_code 94 = .ok (.iadd, 1) := by decide +kernel
theorem d_Mo_change_95 : decode prog_14_method_18_code 95 = .ok (.istore 6, 2) := by decide +kernel
theorem d_Mo_change_97 : decode prog_14_method_18_code 97 = .ok (.aload_n 0, 1) := by decide +kernel
theorem d_Mo_change_98 : decode prog_14_method_18_code 98 = .ok (.getfield 33, 3) := by decide +kernel
theorem d_Mo_change_101 : decode prog_14_method_18_code 101 = .ok (.iload_n 2, 1) := by decide +kernel
theorem d_Mo_change_102 : decode prog_14_method_18_code 102 = .ok (.iaload, 1) := by decide +kernel
theorem d_Mo_change_103 : decode prog_14_method_18_code 103 = .ok (.iconst 3, 1) := by decide +kernel
theorem d_Mo_change_104 : decode prog_14_method_18_code 104 = .ok (.if_icmp .ne 16, 3) := by decide +kernel
theorem d_Mo_change_107 : decode prog_14_method_18_code 107 = .ok (.iload 4, 2) := by decide +kernel
theorem d_Mo_change_109 : decode prog_14_method_18_code 109 = .ok (.ifCond .eq 11, 3) := by decide +kernel
theorem d_Mo_change_112 : decode prog_14_method_18_code 112 = .ok (.aload_n 0, 1) := by decide +kernel
theorem d_Mo_change_113 : decode prog_14_method_18_code 113 = .ok (.iload_n 1, 1) := by decide +kernel
theorem d_Mo_change_114 : decode prog_14_method_18_code 114 = .ok (.iload 6, 2) := by decide +kernel
theorem d_Mo_change_116 : decode prog_14_method_18_code 116 = .ok (.iconst 0, 1) := by decide +kernel
theorem d_Mo_change_117 : decode prog_14_method_18_code 117 = .ok (.invokevirtual 73, 3) := by decide +kernel
theorem d_Mo_change_120 : decode prog_14_method_18_code 120 = .ok (.iconst 0, 1) := by decide +kernel
theorem d_Mo_change_121 : decode prog_14_method_18_code 121 = .ok (.istore 7, 2) := by decide +kernel
theorem d_Mo_change_123 : decode prog_14_method_18_code 123 = .ok (.iload 7, 2) := by decide +kernel
theorem d_Mo_change_125 : decode prog_14_method_18_code 125 = .ok (.aload_n 0, 1) := by decide +kernel
theorem d_Mo_change_126 : decode prog_14_method_18_code 126 = .ok (.iload_n 1, 1) := by decide +kernel
theorem d_Mo_change_127 : decode prog_14_method_18_code 127 = .ok (.iload 6, 2) := by decide +kernel
theorem d_Mo_change_129 : decode prog_14_method_18_code 129 = .ok (.invokevirtual 69, 3) := by decide +kernel
theorem d_Mo_change_132 : decode prog_14_method_18_code 132 = .ok (.if_icmp .ge 71, 3) := by decide +kernel
theorem d_Mo_change_135 : decode prog_14_method_18_code 135 = .ok (.aload_n 0, 1) := by decide +kernel
theorem d_Mo_change_136 : decode prog_14_method_18_code 136 = .ok (.getfield 33, 3) := by decide +kernel
theorem d_Mo_change_139 : decode prog_14_method_18_code 139 = .ok (.iload_n 2, 1) := by decide +kernel
theorem d_Mo_change_140 : decode prog_14_method_18_code 140 = .ok (.iaload, 1) := by decide +kernel
theorem d_Mo_change_141 : decode prog_14_method_18_code 141 = .ok (.iconst 1, 1) := by decide +kernel
theorem d_Mo_change_142 : decode prog_14_method_18_code 142 = .ok (.if_icmp .ne 61, 3) := by decide +kernel
theorem d_Mo_change_145 : decode prog_14_method_18_code 145 = .ok (.aload_n 0, 1) := by decide +kernel
theorem d_Mo_change_146 : decode prog_14_method_18_code 146 = .ok (.iload_n 1, 1) := by decide +kernel
theorem d_Mo_change_147 : decode prog_14_method_18_code 147 = .ok (.iload 6, 2) := by decide +kernel
theorem d_Mo_change_149 : decode prog_14_method_18_code 149 = .ok (.iconst 1, 1) := by decide +kernel
theorem d_Mo_change_150 : decode prog_14_method_18_code 150 = .ok (.iadd, 1) := by decide +kernel
theorem d_Mo_change_151 : decode prog_14_method_18_code 151 = .ok (.iconst 3, 1) := by decide +kernel
theorem d_Mo_change_152 : decode prog_14_method_18_code 152 = .ok (.iload 7, 2) := by decide +kernel
theorem d_Mo_change_154 : decode prog_14_method_18_code 154 = .ok (.imul, 1) := by decide +kernel
theorem d_Mo_change_155 : decode prog_14_method_18_code 155 = .ok (.iadd, 1) := by decide +kernel
theorem d_Mo_change_156 : decode prog_14_method_18_code 156 = .ok (.invokevirtual 69, 3) := by decide +kernel
theorem d_Mo_change_159 : decode prog_14_method_18_code 159 = .ok (.ifCond .ne 38, 3) := by decide +kernel
theorem d_Mo_change_162 : decode prog_14_method_18_code 162 = .ok (.aload_n 0, 1) := by decide +kernel
theorem d_Mo_change_163 : decode prog_14_method_18_code 163 = .ok (.iload_n 1, 1) := by decide +kernel
theorem d_Mo_change_164 : decode prog_14_method_18_code 164 = .ok (.iload 6, 2) := by decide +kernel
theorem d_Mo_change_166 : decode prog_14_method_18_code 166 = .ok (.iconst 2, 1) := by decide +kernel
theorem d_Mo_change_167 : decode prog_14_method_18_code 167 = .ok (.iadd, 1) := by decide +kernel
theorem d_Mo_change_168 : decode prog_14_method_18_code 168 = .ok (.iconst 3, 1) := by decide +kernel
theorem d_Mo_change_169 : decode prog_14_method_18_code 169 = .ok (.iload 7, 2) := by decide +kernel
theorem d_Mo_change_171 : decode prog_14_method_18_code 171 = .ok (.imul, 1) := by decide +kernel
theorem d_Mo_change_172 : decode prog_14_method_18_code 172 = .ok (.iadd, 1) := by decide +kernel
theorem d_Mo_change_173 : decode prog_14_method_18_code 173 = .ok (.aload_n 0, 1) := by decide +kernel
theorem d_Mo_change_174 : decode prog_14_method_18_code 174 = .ok (.iload_n 1, 1) := by decide +kernel
theorem d_Mo_change_175 : decode prog_14_method_18_code 175 = .ok (.iload 6, 2) := by decide +kernel
theorem d_Mo_change_177 : decode prog_14_method_18_code 177 = .ok (.iconst 2, 1) := by decide +kernel
theorem d_Mo_change_178 : decode prog_14_method_18_code 178 = .ok (.iadd, 1) := by decide +kernel
theorem d_Mo_change_179 : decode prog_14_method_18_code 179 = .ok (.iconst 3, 1) := by decide +kernel
theorem d_Mo_change_180 : decode prog_14_method_18_code 180 = .ok (.iload 7, 2) := by decide +kernel
theorem d_Mo_change_182 : decode prog_14_method_18_code 182 = .ok (.imul, 1) := by decide +kernel
theorem d_Mo_change_183 : decode prog_14_method_18_code 183 = .ok (.iadd, 1) := by decide +kernel
theorem d_Mo_change_184 : decode prog_14_method_18_code 184 = .ok (.invokevirtual 69, 3) := by decide +kernel
theorem d_Mo_change_187 : decode prog_14_method_18_code 187 = .ok (.aload_n 0, 1) := by decide +kernel
theorem d_Mo_change_188 : decode prog_14_method_18_code 188 = .ok (.getfield 36, 3) := by decide +kernel
theorem d_Mo_change_191 : decode prog_14_method_18_code 191 = .ok (.iload_n 2, 1) := by decide +kernel
theorem d_Mo_change_192 : decode prog_14_method_18_code 192 = .ok (.iaload, 1) := by decide +kernel
theorem d_Mo_change_193 : decode prog_14_method_18_code 193 = .ok (.iadd, 1) := by decide +kernel
theorem d_Mo_change_194 : decode prog_14_method_18_code 194 = .ok (.invokevirtual 73, 3) := by decide +kernel
theorem d_Mo_change_197 : decode prog_14_method_18_code 197 = .ok (.iinc 7 1, 3) := by decide +kernel
theorem d_Mo_change_200 : decode prog_14_method_18_code 200 = .ok (.goto (-77), 3) := by decide +kernel
theorem d_Mo_change_203 : decode prog_14_method_18_code 203 = .ok (.iinc 5 1, 3) := by decide +kernel
theorem d_Mo_change_206 : decode prog_14_method_18_code 206 = .ok (.goto (-124), 3) := by decide +kernel
theorem d_Mo_change_209 : decode prog_14_method_18_code 209 = .ok (.return_, 1) := by decide +kernel
theorem d_Mo_changes_0 : decode prog_14_method_19_code 0 = .ok (.iconst 0, 1) := by decide +kernel
theorem d_Mo_changes_1 : decode prog_14_method_19_code 1 = .ok (.istore 4, 2) := by decide +kernel
theorem d_Mo_changes_3 : decode prog_14_method_19_code 3 = .ok (.iload 4, 2) := by decide +kernel
theorem d_Mo_changes_5 : decode prog_14_method_19_code 5 = .ok (.iconst 5, 1) := by decide +kernel
theorem d_Mo_changes_6 : decode prog_14_method_19_code 6 = .ok (.if_icmp .ge 59, 3) := by decide +kernel
theorem d_Mo_changes_9 : decode prog_14_method_19_code 9 = .ok (.aload_n 0, 1) := by decide +kernel
theorem d_Mo_changes_10 : decode prog_14_method_19_code 10 = .ok (.getfield 29, 3) := by decide +kernel
theorem d_Mo_changes_13 : decode prog_14_method_19_code 13 = .ok (.iload 4, 2) := by decide +kernel
theorem d_Mo_changes_15 : decode prog_14_method_19_code 15 = .ok (.baload, 1) := by decide +kernel
theorem d_Mo_changes_16 : decode prog_14_method_19_code 16 = .ok (.ifCond .eq 43, 3) := by decide +kernel
theorem d_Mo_changes_19 : decode prog_14_method_19_code 19 = .ok (.aload_n 0, 1) := by decide +kernel
theorem d_Mo_changes_20 : decode prog_14_method_19_code 20 = .ok (.getfield 42, 3) := by decide +kernel
theorem d_Mo_changes_23 : decode prog_14_method_19_code 23 = .ok (.iload 4, 2) := by decide +kernel
theorem d_Mo_changes_25 : decode prog_14_method_19_code 25 = .ok (.baload, 1) := by decide +kernel
theorem d_Mo_changes_26 : decode prog_14_method_19_code 26 = .ok (.iload_n 3, 1) := by decide +kernel
theorem d_Mo_changes_27 : decode prog_14_method_19_code 27 = .ok (.if_icmp .ne 32, 3) := by decide +kernel
theorem d_Mo_changes_30 : decode prog_14_method_19_code 30 = .ok (.aload_n 0, 1) := by decide +kernel
theorem d_Mo_changes_31 : decode prog_14_method_19_code 31 = .ok (.getfield 39, 3) := by decide +kernel
theorem d_Mo_changes_34 : decode prog_14_method_19_code 34 = .ok (.iload 4, 2) := by decide +kernel
theorem d_Mo_changes_36 : decode prog_14_method_19_code 36 = .ok (.iaload, 1) := by decide +kernel
theorem d_Mo_changes_37 : decode prog_14_method_19_code 37 = .ok (.iconst (-1), 1) := by decide +kernel
theorem d_Mo_changes_38 : decode prog_14_method_19_code 38 = .ok (.if_icmp .eq 14, 3) := by decide +kernel
theorem d_Mo_changes_41 : decode prog_14_method_19_code 41 = .ok (.aload_n 0, 1) := by decide +kernel
theorem d_Mo_changes_42 : decode prog_14_method_19_code 42 = .ok (.getfield 39, 3) := by decide +kernel
theorem d_Mo_changes_45 : decode prog_14_method_19_code 45 = .ok (.iload 4, 2) := by decide +kernel
theorem d_Mo_changes_47 : decode prog_14_method_19_code 47 = .ok (.iaload, 1) := by decide +kernel
theorem d_Mo_changes_48 : decode prog_14_method_19_code 48 = .ok (.iload_n 2, 1) := by decide +kernel
theorem d_Mo_changes_49 : decode prog_14_method_19_code 49 = .ok (.if_icmp .ne 10, 3) := by decide +kernel
theorem d_Mo_changes_52 : decode prog_14_method_19_code 52 = .ok (.aload_n 0, 1) := by decide +kernel
theorem d_Mo_changes_53 : decode prog_14_method_19_code 53 = .ok (.iload_n 1, 1) := by decide +kernel
theorem d_Mo_changes_54 : decode prog_14_method_19_code 54 = .ok (.iload 4, 2) := by decide +kernel
theorem d_Mo_changes_56 : decode prog_14_method_19_code 56 = .ok (.invokevirtual 92, 3) := by decide +kernel
theorem d_Mo_changes_59 : decode prog_14_method_19_code 59 = .ok (.iinc 4 1, 3) := by decide +kernel
theorem d_Mo_changes_62 : decode prog_14_method_19_code 62 = .ok (.goto (-59), 3) := by decide +kernel
theorem d_Mo_changes_65 : decode prog_14_method_19_code 65 = .ok (.return_, 1) := by decide +kernel
theorem d_Mo_treat_0 : decode prog_14_method_20_code 0 = .ok (.aload_n 0, 1) := by decide +kernel
theorem d_Mo_treat_1 : decode prog_14_method_20_code 1 = .ok (.iload_n 1, 1) := by decide +kernel
theorem d_Mo_treat_2 : decode prog_14_method_20_code 2 = .ok (.iload_n 3, 1) := by decide +kernel
theorem d_Mo_treat_3 : decode prog_14_method_20_code 3 = .ok (.iconst 0, 1) := by decide +kernel
theorem d_Mo_treat_4 : decode prog_14_method_20_code 4 = .ok (.invokevirtual 95, 3) := by decide +kernel
theorem d_Mo_treat_7 : decode prog_14_method_20_code 7 = .ok (.aload_n 0, 1) := by decide +kernel
theorem d_Mo_treat_8 : decode prog_14_method_20_code 8 = .ok (.iload_n 1, 1) := by decide +kernel
theorem d_Mo_treat_9 : decode prog_14_method_20_code 9 = .ok (.iload_n 2, 1) := by decide +kernel
theorem d_Mo_treat_10 : decode prog_14_method_20_code 10 = .ok (.invokevirtual 81, 3) := by decide +kernel
theorem d_Mo_treat_13 : decode prog_14_method_20_code 13 = .ok (.aload_n 0, 1) := by decide +kernel
theorem d_Mo_treat_14 : decode prog_14_method_20_code 14 = .ok (.iload_n 1, 1) := by decide +kernel
theorem d_Mo_treat_15 : decode prog_14_method_20_code 15 = .ok (.iload_n 3, 1) := by decide +kernel
theorem d_Mo_treat_16 : decode prog_14_method_20_code 16 = .ok (.iconst 1, 1) := by decide +kernel
theorem d_Mo_treat_17 : decode prog_14_method_20_code 17 = .ok (.invokevirtual 95, 3) := by decide +kernel
theorem d_Mo_treat_20 : decode prog_14_method_20_code 20 = .ok (.return_, 1) := by decide +kernel
theorem d_Mo_twice_0 : decode prog_14_method_21_code 0 = .ok (.iconst 0, 1) := by decide +kernel
theorem d_Mo_twice_1 : decode prog_14_method_21_code 1 = .ok (.istore 5, 2) := by decide +kernel
theorem d_Mo_twice_3 : decode prog_14_method_21_code 3 = .ok (.iconst 0, 1) := by decide +kernel
theorem d_Mo_twice_4 : decode prog_14_method_21_code 4 = .ok (.istore 6, 2) := by decide +kernel
theorem d_Mo_twice_6 : decode prog_14_method_21_code 6 = .ok (.iload 6, 2) := by decide +kernel
theorem d_Mo_twice_8 : decode prog_14_method_21_code 8 = .ok (.iload 4, 2) := by decide +kernel
theorem d_Mo_twice_10 : decode prog_14_method_21_code 10 = .ok (.if_icmp .ge 62, 3) := by decide +kernel
theorem d_Mo_twice_13 : decode prog_14_method_21_code 13 = .ok (.iconst 0, 1) := by decide +kernel
theorem d_Mo_twice_14 : decode prog_14_method_21_code 14 = .ok (.istore 7, 2) := by decide +kernel
theorem d_Mo_twice_16 : decode prog_14_method_21_code 16 = .ok (.iload 7, 2) := by decide +kernel
theorem d_Mo_twice_18 : decode prog_14_method_21_code 18 = .ok (.iload 6, 2) := by decide +kernel
theorem d_Mo_twice_20 : decode prog_14_method_21_code 20 = .ok (.if_icmp .ge 46, 3) := by decide +kernel
theorem d_Mo_twice_23 : decode prog_14_method_21_code 23 = .ok (.iload 5, 2) := by decide +kernel
theorem d_Mo_twice_25 : decode prog_14_method_21_code 25 = .ok (.ifCond .ne 28, 3) := by decide +kernel
theorem d_Mo_twice_28 : decode prog_14_method_21_code 28 = .ok (.aload_n 0, 1) := by decide +kernel
theorem d_Mo_twice_29 : decode prog_14_method_21_code 29 = .ok (.iload_n 1, 1) := by decide +kernel
theorem d_Mo_twice_30 : decode prog_14_method_21_code 30 = .ok (.iload_n 2, 1) := by decide +kernel
theorem d_Mo_twice_31 : decode prog_14_method_21_code 31 = .ok (.iload_n 3, 1) := by decide +kernel
theorem d_Mo_twice_32 : decode prog_14_method_21_code 32 = .ok (.iload 6, 2) := by decide +kernel
theorem d_Mo_twice_34 : decode prog_14_method_21_code 34 = .ok (.imul, 1) := by decide +kernel
theorem d_Mo_twice_35 : decode prog_14_method_21_code 35 = .ok (.iadd, 1) := by decide +kernel
theorem d_Mo_twice_36 : decode prog_14_method_21_code 36 = .ok (.invokevirtual 69, 3) := by decide +kernel
theorem d_Mo_twice_39 : decode prog_14_method_21_code 39 = .ok (.aload_n 0, 1) := by decide +kernel
theorem d_Mo_twice_40 : decode prog_14_method_21_code 40 = .ok (.iload_n 1, 1) := by decide +kernel
theorem d_Mo_twice_41 : decode prog_14_method_21_code 41 = .ok (.iload_n 2, 1) := by decide +kernel
theorem d_Mo_twice_42 : decode prog_14_method_21_code 42 = .ok (.iload_n 3, 1) := by decide +kernel
theorem d_Mo_twice_43 : decode prog_14_method_21_code 43 = .ok (.iload 7, 2) := by decide +kernel
theorem d_Mo_twice_45 : decode prog_14_method_21_code 45 = .ok (.imul, 1) := by decide +kernel
theorem d_Mo_twice_46 : decode prog_14_method_21_code 46 = .ok (.iadd, 1) := by decide +kernel
theorem d_Mo_twice_47 : decode prog_14_method_21_code 47 = .ok (.invokevirtual 69, 3) := by decide +kernel
theorem d_Mo_twice_50 : decode prog_14_method_21_code 50 = .ok (.if_icmp .ne 7, 3) := by decide +kernel
theorem d_Mo_twice_53 : decode prog_14_method_21_code 53 = .ok (.iconst 1, 1) := by decide +kernel
theorem d_Mo_twice_54 : decode prog_14_method_21_code 54 = .ok (.goto 4, 3) := by decide +kernel
theorem d_Mo_twice_57 : decode prog_14_method_21_code 57 = .ok (.iconst 0, 1) := by decide +kernel
theorem d_Mo_twice_58 : decode prog_14_method_21_code 58 = .ok (.istore 5, 2) := by decide +kernel
theorem d_Mo_twice_60 : decode prog_14_method_21_code 60 = .ok (.iinc 7 1, 3) := by decide +kernel
theorem d_Mo_twice_63 : decode prog_14_method_21_code 63 = .ok (.goto (-47), 3) := by decide +kernel
theorem d_Mo_twice_66 : decode prog_14_method_21_code 66 = .ok (.iinc 6 1, 3) := by decide +kernel
theorem d_Mo_twice_69 : decode prog_14_method_21_code 69 = .ok (.goto (-63), 3) := by decide +kernel
theorem d_Mo_twice_72 : decode prog_14_method_21_code 72 = .ok (.iload 5, 2) := by decide +kernel
theorem d_Mo_twice_74 : decode prog_14_method_21_code 74 = .ok (.ireturn, 1) := by decide +kernel
theorem d_Mo_strangeOp_0 : decode prog_14_method_22_code 0 = .ok (.iconst 0, 1) := by decide +kernel
theorem d_Mo_strangeOp_1 : decode prog_14_method_22_code 1 = .ok (.istore_n 2, 1) := by decide +kernel
theorem d_Mo_strangeOp_2 : decode prog_14_method_22_code 2 = .ok (.iconst 0, 1) := by decide +kernel
theorem d_Mo_strangeOp_3 : decode prog_14_method_22_code 3 = .ok (.istore_n 3, 1) := by decide +kernel
theorem d_Mo_strangeOp_4 : decode prog_14_method_22_code 4 = .ok (.iload_n 3, 1) := by decide +kernel
theorem d_Mo_strangeOp_5 : decode prog_14_method_22_code 5 = .ok (.aload_n 0, 1) := by decide +kernel
theorem d_Mo_strangeOp_6 : decode prog_14_method_22_code 6 = .ok (.iload_n 1, 1) := by decide +kernel
theorem d_Mo_strangeOp_7 : decode prog_14_method_22_code 7 = .ok (.bipush 22, 2) := by decide +kernel
theorem d_Mo_strangeOp_9 : decode prog_14_method_22_code 9 = .ok (.invokevirtual 69, 3) := by decide +kernel
theorem d_Mo_strangeOp_12 : decode prog_14_method_22_code 12 = .ok (.if_icmp .ge 75, 3) := by decide +kernel
theorem d_Mo_strangeOp_15 : decode prog_14_method_22_code 15 = .ok (.iload_n 3, 1) := by decide +kernel
theorem d_Mo_strangeOp_16 : decode prog_14_method_22_code 16 = .ok (.invokestatic 85, 3) := by decide +kernel
theorem d_Mo_strangeOp_19 : decode prog_14_method_22_code 19 = .ok (.iconst 2, 1) := by decide +kernel
theorem d_Mo_strangeOp_20 : decode prog_14_method_22_code 20 = .ok (.iadd, 1) := by decide +kernel
theorem d_Mo_strangeOp_21 : decode prog_14_method_22_code 21 = .ok (.istore 4, 2) := by decide +kernel
theorem d_Mo_strangeOp_23 : decode prog_14_method_22_code 23 = .ok (.iconst 0, 1) := by decide +kernel
theorem d_Mo_strangeOp_24 : decode prog_14_method_22_code 24 = .ok (.istore 5, 2) := by decide +kernel
theorem d_Mo_strangeOp_26 : decode prog_14_method_22_code 26 = .ok (.iload 5, 2) := by decide +kernel
theorem d_Mo_strangeOp_28 : decode prog_14_method_22_code 28 = .ok (.aload_n 0, 1) := by decide +kernel
theorem d_Mo_strangeOp_29 : decode prog_14_method_22_code 29 = .ok (.iload_n 1, 1) := by decide +kernel
theorem d_Mo_strangeOp_30 : decode prog_14_method_22_code 30 = .ok (.iload 4, 2) := by decide +kernel
theorem d_Mo_strangeOp_32 : decode prog_14_method_22_code 32 = .ok (.invokevirtual 69, 3) := by decide +kernel
theorem d_Mo_strangeOp_35 : decode prog_14_method_22_code 35 = .ok (.if_icmp .ge 46, 3) := by decide +kernel
theorem d_Mo_strangeOp_38 : decode prog_14_method_22_code 38 = .ok (.aload_n 0, 1) := by decide +kernel
theorem d_Mo_strangeOp_39 : decode prog_14_method_22_code 39 = .ok (.iload_n 1, 1) := by decide +kernel
theorem d_Mo_strangeOp_40 : decode prog_14_method_22_code 40 = .ok (.iload 4, 2) := by decide +kernel
theorem d_Mo_strangeOp_42 : decode prog_14_method_22_code 42 = .ok (.iconst 1, 1) := by decide +kernel
theorem d_Mo_strangeOp_43 : decode prog_14_method_22_code 43 = .ok (.iadd, 1) := by decide +kernel
theorem d_Mo_strangeOp_44 : decode prog_14_method_22_code 44 = .ok (.iconst 3, 1) := by decide +kernel
theorem d_Mo_strangeOp_45 : decode prog_14_method_22_code 45 = .ok (.iload 5, 2) := by decide +kernel
theorem d_Mo_strangeOp_47 : decode prog_14_method_22_code 47 = .ok (.imul, 1) := by decide +kernel
theorem d_Mo_strangeOp_48 : decode prog_14_method_22_code 48 = .ok (.iadd, 1) := by decide +kernel
theorem d_Mo_strangeOp_49 : decode prog_14_method_22_code 49 = .ok (.invokevirtual 69, 3) := by decide +kernel
theorem d_Mo_strangeOp_52 : decode prog_14_method_22_code 52 = .ok (.istore 6, 2) := by decide +kernel
theorem d_Mo_strangeOp_54 : decode prog_14_method_22_code 54 = .ok (.iload_n 2, 1) := by decide +kernel
theorem d_Mo_strangeOp_55 : decode prog_14_method_22_code 55 = .ok (.ifCond .ne 14, 3) := by decide +kernel
theorem d_Mo_strangeOp_58 : decode prog_14_method_22_code 58 = .ok (.iload 6, 2) := by decide +kernel
theorem d_Mo_strangeOp_60 : decode prog_14_method_22_code 60 = .ok (.ifCond .eq 13, 3) := by decide +kernel
theorem d_Mo_strangeOp_63 : decode prog_14_method_22_code 63 = .ok (.iload 6, 2) := by decide +kernel
theorem d_Mo_strangeOp_65 : decode prog_14_method_22_code 65 = .ok (.iconst 1, 1) := by decide +kernel
theorem d_Mo_strangeOp_66 : decode prog_14_method_22_code 66 = .ok (.if_icmp .eq 7, 3) := by decide +kernel
theorem d_Mo_strangeOp_69 : decode prog_14_method_22_code 69 = .ok (.iconst 1, 1) := by decide +kernel
theorem d_Mo_strangeOp_70 : decode prog_14_method_22_code 70 = .ok (.goto 4, 3) := by decide +kernel
theorem d_Mo_strangeOp_73 : decode prog_14_method_22_code 73 = .ok (.iconst 0, 1) := by decide +kernel
theorem d_Mo_strangeOp_74 : decode prog_14_method_22_code 74 = .ok (.istore_n 2, 1) := by decide +kernel
theorem d_Mo_strangeOp_75 : decode prog_14_method_22_code 75 = .ok (.iinc 5 1, 3) := by decide +kernel
theorem d_Mo_strangeOp_78 : decode prog_14_method_22_code 78 = .ok (.goto (-52), 3) := by decide +kernel
theorem d_Mo_strangeOp_81 : decode prog_14_method_22_code 81 = .ok (.iinc 3 1, 3) := by decide +kernel
theorem d_Mo_strangeOp_84 : decode prog_14_method_22_code 84 = .ok (.goto (-80), 3) := by decide +kernel
theorem d_Mo_strangeOp_87 : decode prog_14_method_22_code 87 = .ok (.iload_n 2, 1) := by decide +kernel
theorem d_Mo_strangeOp_88 : decode prog_14_method_22_code 88 = .ok (.ireturn, 1) := by decide +kernel
theorem d_Mo_circle_0 : decode prog_14_method_23_code 0 = .ok (.aload_n 0, 1) := by decide +kernel
theorem d_Mo_circle_1 : decode prog_14_method_23_code 1 = .ok (.iload_n 1, 1) := by decide +kernel
theorem d_Mo_circle_2 : decode prog_14_method_23_code 2 = .ok (.iconst 1, 1) := by decide +kernel
theorem d_Mo_circle_3 : decode prog_14_method_23_code 3 = .ok (.invokevirtual 69, 3) := by decide +kernel
theorem d_Mo_circle_6 : decode prog_14_method_23_code 6 = .ok (.istore_n 2, 1) := by decide +kernel
theorem d_Mo_circle_7 : decode prog_14_method_23_code 7 = .ok (.aload_n 0, 1) := by decide +kernel
theorem d_Mo_circle_8 : decode prog_14_method_23_code 8 = .ok (.iload_n 1, 1) := by decide +kernel
theorem d_Mo_circle_9 : decode prog_14_method_23_code 9 = .ok (.iconst 2, 1) := by decide +kernel
theorem d_Mo_circle_10 : decode prog_14_method_23_code 10 = .ok (.invokevirtual 69, 3) := by decide +kernel
theorem d_Mo_circle_13 : decode prog_14_method_23_code 13 = .ok (.istore_n 3, 1) := by decide +kernel
theorem d_Mo_circle_14 : decode prog_14_method_23_code 14 = .ok (.iload_n 3, 1) := by decide +kernel
theorem d_Mo_circle_15 : decode prog_14_method_23_code 15 = .ok (.iload_n 2, 1) := by decide +kernel
theorem d_Mo_circle_16 : decode prog_14_method_23_code 16 = .ok (.if_icmp .ne 7, 3) := by decide +kernel
theorem d_Mo_circle_19 : decode prog_14_method_23_code 19 = .ok (.iconst 1, 1) := by decide +kernel
theorem d_Mo_circle_20 : decode prog_14_method_23_code 20 = .ok (.goto 4, 3) := by decide +kernel
theorem d_Mo_circle_23 : decode prog_14_method_23_code 23 = .ok (.iconst 0, 1) := by decide +kernel
theorem d_Mo_circle_24 : decode prog_14_method_23_code 24 = .ok (.istore 4, 2) := by decide +kernel
theorem d_Mo_circle_26 : decode prog_14_method_23_code 26 = .ok (.iconst 0, 1) := by decide +kernel
theorem d_Mo_circle_27 : decode prog_14_method_23_code 27 = .ok (.istore 5, 2) := by decide +kernel
theorem d_Mo_circle_29 : decode prog_14_method_23_code 29 = .ok (.iload 5, 2) := by decide +kernel
theorem d_Mo_circle_31 : decode prog_14_method_23_code 31 = .ok (.bipush 10, 2) := by decide +kernel
theorem d_Mo_circle_33 : decode prog_14_method_23_code 33 = .ok (.if_icmp .ge 46, 3) := by decide +kernel
theorem d_Mo_circle_36 : decode prog_14_method_23_code 36 = .ok (.iload 4, 2) := by decide +kernel
theorem d_Mo_circle_38 : decode prog_14_method_23_code 38 = .ok (.ifCond .ne 41, 3) := by decide +kernel
theorem d_Mo_circle_41 : decode prog_14_method_23_code 41 = .ok (.aload_n 0, 1) := by decide +kernel
theorem d_Mo_circle_42 : decode prog_14_method_23_code 42 = .ok (.iload_n 3, 1) := by decide +kernel
theorem d_Mo_circle_43 : decode prog_14_method_23_code 43 = .ok (.invokevirtual 77, 3) := by decide +kernel
theorem d_Mo_circle_46 : decode prog_14_method_23_code 46 = .ok (.ifCond .eq 33, 3) := by decide +kernel
theorem d_Mo_circle_49 : decode prog_14_method_23_code 49 = .ok (.aload_n 0, 1) := by decide +kernel
theorem d_Mo_circle_50 : decode prog_14_method_23_code 50 = .ok (.aload_n 0, 1) := by decide +kernel
theorem d_Mo_circle_51 : decode prog_14_method_23_code 51 = .ok (.getfield 17, 3) := by decide +kernel
theorem d_Mo_circle_54 : decode prog_14_method_23_code 54 = .ok (.iload_n 3, 1) := by decide +kernel
theorem d_Mo_circle_55 : decode prog_14_method_23_code 55 = .ok (.iaload, 1) := by decide +kernel
theorem d_Mo_circle_56 : decode prog_14_method_23_code 56 = .ok (.iconst 2, 1) := by decide +kernel
theorem d_Mo_circle_57 : decode prog_14_method_23_code 57 = .ok (.invokevirtual 69, 3) := by decide +kernel
theorem d_Mo_circle_60 : decode prog_14_method_23_code 60 = .ok (.istore_n 3, 1) := by decide +kernel
theorem d_Mo_circle_61 : decode prog_14_method_23_code 61 = .ok (.iload_n 3, 1) := by decide +kernel
theorem d_Mo_circle_62 : decode prog_14_method_23_code 62 = .ok (.iload_n 2, 1) := by decide +kernel
theorem d_Mo_circle_63 : decode prog_14_method_23_code 63 = .ok (.if_icmp .ne 7, 3) := by decide +kernel
theorem d_Mo_circle_66 : decode prog_14_method_23_code 66 = .ok (.iconst 1, 1) := by decide +kernel
theorem d_Mo_circle_67 : decode prog_14_method_23_code 67 = .ok (.goto 4, 3) := by decide +kernel
theorem d_Mo_circle_70 : decode prog_14_method_23_code 70 = .ok (.iconst 0, 1) := by decide +kernel
theorem d_Mo_circle_71 : decode prog_14_method_23_code 71 = .ok (.istore 4, 2) := by decide +kernel
theorem d_Mo_circle_73 : decode prog_14_method_23_code 73 = .ok (.iinc 5 1, 3) := by decide +kernel
theorem d_Mo_circle_76 : decode prog_14_method_23_code 76 = .ok (.goto (-47), 3) := by decide +kernel
theorem d_Mo_circle_79 : decode prog_14_method_23_code 79 = .ok (.iload 4, 2) := by decide +kernel
theorem d_Mo_circle_81 : decode prog_14_method_23_code 81 = .ok (.ireturn, 1) := by decide +kernel
theorem d_Mo_callsNothing_0 : decode prog_14_method_24_code 0 = .ok (.iconst 0, 1) := by decide +kernel
theorem d_Mo_callsNothing_1 : decode prog_14_method_24_code 1 = .ok (.istore_n 2, 1) := by decide +kernel
theorem d_Mo_callsNothing_2 : decode prog_14_method_24_code 2 = .ok (.iconst 0, 1) := by decide +kernel
theorem d_Mo_callsNothing_3 : decode prog_14_method_24_code 3 = .ok (.istore_n 3, 1) := by decide +kernel
theorem d_Mo_callsNothing_4 : decode prog_14_method_24_code 4 = .ok (.iload_n 3, 1) := by decide +kernel
theorem d_Mo_callsNothing_5 : decode prog_14_method_24_code 5 = .ok (.aload_n 0, 1) := by decide +kernel
theorem d_Mo_callsNothing_6 : decode prog_14_method_24_code 6 = .ok (.iload_n 1, 1) := by decide +kernel
theorem d_Mo_callsNothing_7 : decode prog_14_method_24_code 7 = .ok (.bipush 22, 2) := by decide +kernel
theorem d_Mo_callsNothing_9 : decode prog_14_method_24_code 9 = .ok (.invokevirtual 69, 3) := by decide +kernel
theorem d_Mo_callsNothing_12 : decode prog_14_method_24_code 12 = .ok (.if_icmp .ge 166, 3) := by decide +kernel
theorem d_Mo_callsNothing_15 : decode prog_14_method_24_code 15 = .ok (.iload_n 3, 1) := by decide +kernel
theorem d_Mo_callsNothing_16 : decode prog_14_method_24_code 16 = .ok (.invokestatic 85, 3) := by decide +kernel
theorem d_Mo_callsNothing_19 : decode prog_14_method_24_code 19 = .ok (.iconst 2, 1) := by decide +kernel
theorem d_Mo_callsNothing_20 : decode prog_14_method_24_code 20 = .ok (.iadd, 1) := by decide +kernel
theorem d_Mo_callsNothing_21 : decode prog_14_method_24_code 21 = .ok (.istore 4, 2) := by decide +kernel
theorem d_Mo_callsNothing_23 : decode prog_14_method_24_code 23 = .ok (.iconst 0, 1) := by decide +kernel
theorem d_Mo_callsNothing_24 : decode prog_14_method_24_code 24 = .ok (.istore 5, 2) := by decide +kernel
theorem d_Mo_callsNothing_26 : decode prog_14_method_24_code 26 = .ok (.iload 5, 2) := by decide +kernel
theorem d_Mo_callsNothing_28 : decode prog_14_method_24_code 28 = .ok (.aload_n 0, 1) := by decide +kernel
theorem d_Mo_callsNothing_29 : decode prog_14_method_24_code 29 = .ok (.iload_n 1, 1) := by decide +kernel
theorem d_Mo_callsNothing_30 : decode prog_14_method_24_code 30 = .ok (.iload 4, 2) := by decide +kernel
theorem d_Mo_callsNothing_32 : decode prog_14_method_24_code 32 = .ok (.invokevirtual 69, 3) := by decide +kernel
theorem d_Mo_callsNothing_35 : decode prog_14_method_24_code 35 = .ok (.if_icmp .ge 137, 3) := by decide +kernel
theorem d_Mo_callsNothing_38 : decode prog_14_method_24_code 38 = .ok (.aload_n 0, 1) := by decide +kernel
theorem d_Mo_callsNothing_39 : decode prog_14_method_24_code 39 = .ok (.iload_n 1, 1) := by decide +kernel
theorem d_Mo_callsNothing_40 : decode prog_14_method_24_code 40 = .ok (.iload 4, 2) := by decide +kernel
theorem d_Mo_callsNothing_42 : decode prog_14_method_24_code 42 = .ok (.iconst 2, 1) := by decide +kernel
theorem d_Mo_callsNothing_43 : decode prog_14_method_24_code 43 = .ok (.iadd, 1) := by decide +kernel
theorem d_Mo_callsNothing_44 : decode prog_14_method_24_code 44 = .ok (.iconst 3, 1) := by decide +kernel
theorem d_Mo_callsNothing_45 : decode prog_14_method_24_code 45 = .ok (.iload 5, 2) := by decide +kernel
theorem d_Mo_callsNothing_47 : decode prog_14_method_24_code 47 = .ok (.imul, 1) := by decide +kernel
theorem d_Mo_callsNothing_48 : decode prog_14_method_24_code 48 = .ok (.iadd, 1) := by decide +kernel
theorem d_Mo_callsNothing_49 : decode prog_14_method_24_code 49 = .ok (.invokevirtual 69, 3) := by decide +kernel
theorem d_Mo_callsNothing_52 : decode prog_14_method_24_code 52 = .ok (.istore 6, 2) := by decide +kernel
theorem d_Mo_callsNothing_54 : decode prog_14_method_24_code 54 = .ok (.aload_n 0, 1) := by decide +kernel
theorem d_Mo_callsNothing_55 : decode prog_14_method_24_code 55 = .ok (.iload_n 1, 1) := by decide +kernel
theorem d_Mo_callsNothing_56 : decode prog_14_method_24_code 56 = .ok (.iload 4, 2) := by decide +kernel
theorem d_Mo_callsNothing_58 : decode prog_14_method_24_code 58 = .ok (.iconst 3, 1) := by decide +kernel
theorem d_Mo_callsNothing_59 : decode prog_14_method_24_code 59 = .ok (.iadd, 1) := by decide +kernel
theorem d_Mo_callsNothing_60 : decode prog_14_method_24_code 60 = .ok (.iconst 3, 1) := by decide +kernel
theorem d_Mo_callsNothing_61 : decode prog_14_method_24_code 61 = .ok (.iload 5, 2) := by decide +kernel
theorem d_Mo_callsNothing_63 : decode prog_14_method_24_code 63 = .ok (.imul, 1) := by decide +kernel
theorem d_Mo_callsNothing_64 : decode prog_14_method_24_code 64 = .ok (.iadd, 1) := by decide +kernel
theorem d_Mo_callsNothing_65 : decode prog_14_method_24_code 65 = .ok (.invokevirtual 69, 3) := by decide +kernel
theorem d_Mo_callsNothing_68 : decode prog_14_method_24_code 68 = .ok (.istore 7, 2) := by decide +kernel
theorem d_Mo_callsNothing_70 : decode prog_14_method_24_code 70 = .ok (.iload 6, 2) := by decide +kernel
theorem d_Mo_callsNothing_72 : decode prog_14_method_24_code 72 = .ok (.aload_n 0, 1) := by decide +kernel
theorem d_Mo_callsNothing_73 : decode prog_14_method_24_code 73 = .ok (.iload_n 1, 1) := by decide +kernel
theorem d_Mo_callsNothing_74 : decode prog_14_method_24_code 74 = .ok (.iconst 1, 1) := by decide +kernel
theorem d_Mo_callsNothing_75 : decode prog_14_method_24_code 75 = .ok (.invokevirtual 69, 3) := by decide +kernel
theorem d_Mo_callsNothing_78 : decode prog_14_method_24_code 78 = .ok (.if_icmp .ne 22, 3) := by decide +kernel
theorem d_Mo_callsNothing_81 : decode prog_14_method_24_code 81 = .ok (.aload_n 0, 1) := by decide +kernel
theorem d_Mo_callsNothing_82 : decode prog_14_method_24_code 82 = .ok (.iload_n 1, 1) := by decide +kernel
theorem d_Mo_callsNothing_83 : decode prog_14_method_24_code 83 = .ok (.iload 7, 2) := by decide +kernel
theorem d_Mo_callsNothing_85 : decode prog_14_method_24_code 85 = .ok (.invokevirtual 89, 3) := by decide +kernel
theorem d_Mo_callsNothing_88 : decode prog_14_method_24_code 88 = .ok (.iconst (-1), 1) := by decide +kernel
theorem d_Mo_callsNothing_89 : decode prog_14_method_24_code 89 = .ok (.if_icmp .eq 7, 3) := by decide +kernel
theorem d_Mo_callsNothing_92 : decode prog_14_method_24_code 92 = .ok (.iconst 1, 1) := by decide +kernel
theorem d_Mo_callsNothing_93 : decode prog_14_method_24_code 93 = .ok (.goto 38, 3) := by decide +kernel
theorem d_Mo_callsNothing_96 : decode prog_14_method_24_code 96 = .ok (.iconst 0, 1) := by decide +kernel
theorem d_Mo_callsNothing_97 : decode prog_14_method_24_code 97 = .ok (.goto 34, 3) := by decide +kernel
theorem d_Mo_callsNothing_100 : decode prog_14_method_24_code 100 = .ok (.aload_n 0, 1) := by decide +kernel
theorem d_Mo_callsNothing_101 : decode prog_14_method_24_code 101 = .ok (.iload 6, 2) := by decide +kernel
theorem d_Mo_callsNothing_103 : decode prog_14_method_24_code 103 = .ok (.invokevirtual 77, 3) := by decide +kernel
theorem d_Mo_callsNothing_106 : decode prog_14_method_24_code 106 = .ok (.ifCond .eq 24, 3) := by decide +kernel
theorem d_Mo_callsNothing_109 : decode prog_14_method_24_code 109 = .ok (.aload_n 0, 1) := by decide +kernel
theorem d_Mo_callsNothing_110 : decode prog_14_method_24_code 110 = .ok (.aload_n 0, 1) := by decide +kernel
theorem d_Mo_callsNothing_111 : decode prog_14_method_24_code 111 = .ok (.getfield 17, 3) := by decide +kernel
theorem d_Mo_callsNothing_114 : decode prog_14_method_24_code 114 = .ok (.iload 6, 2) := by decide +kernel
theorem d_Mo_callsNothing_116 : decode prog_14_method_24_code 116 = .ok (.iaload, 1) := by decide +kernel
theorem d_Mo_callsNothing_117 : decode prog_14_method_24_code 117 = .ok (.iload 7, 2) := by decide +kernel
theorem d_Mo_callsNothing_119 : decode prog_14_method_24_code 119 = .ok (.invokevirtual 89, 3) := by decide +kernel
theorem d_Mo_callsNothing_122 : decode prog_14_method_24_code 122 = .ok (.iconst (-1), 1) := by decide +kernel
theorem d_Mo_callsNothing_123 : decode prog_14_method_24_code 123 = .ok (.if_icmp .eq 7, 3) := by decide +kernel
theorem d_Mo_callsNothing_126 : decode prog_14_method_24_code 126 = .ok (.iconst 1, 1) := by decide +kernel
theorem d_Mo_callsNothing_127 : decode prog_14_method_24_code 127 = .ok (.goto 4, 3) := by decide +kernel
theorem d_Mo_callsNothing_130 : decode prog_14_method_24_code 130 = .ok (.iconst 0, 1) := by decide +kernel
theorem d_Mo_callsNothing_131 : decode prog_14_method_24_code 131 = .ok (.istore 8, 2) := by decide +kernel
theorem d_Mo_callsNothing_133 : decode prog_14_method_24_code 133 = .ok (.iload_n 2, 1) := by decide +kernel
theorem d_Mo_callsNothing_134 : decode prog_14_method_24_code 134 = .ok (.ifCond .ne 26, 3) := by decide +kernel
theorem d_Mo_callsNothing_137 : decode prog_14_method_24_code 137 = .ok (.aload_n 0, 1) := by decide +kernel
theorem d_Mo_callsNothing_138 : decode prog_14_method_24_code 138 = .ok (.iload_n 1, 1) := by decide +kernel
theorem d_Mo_callsNothing_139 : decode prog_14_method_24_code 139 = .ok (.iload 4, 2) := by decide +kernel
theorem d_Mo_callsNothing_141 : decode prog_14_method_24_code 141 = .ok (.iconst 1, 1) := by decide +kernel
theorem d_Mo_callsNothing_142 : decode prog_14_method_24_code 142 = .ok (.iadd, 1) := by decide +kernel
theorem d_Mo_callsNothing_143 : decode prog_14_method_24_code 143 = .ok (.iconst 3, 1) := by decide +kernel
theorem d_Mo_callsNothing_144 : decode prog_14_method_24_code 144 = .ok (.iload 5, 2) := by decide +kernel
theorem d_Mo_callsNothing_146 : decode prog_14_method_24_code 146 = .ok (.imul, 1) := by decide +kernel
theorem d_Mo_callsNothing_147 : decode prog_14_method_24_code 147 = .ok (.iadd, 1) := by decide +kernel
theorem d_Mo_callsNothing_148 : decode prog_14_method_24_code 148 = .ok (.invokevirtual 69, 3) := by decide +kernel
theorem d_Mo_callsNothing_151 : decode prog_14_method_24_code 151 = .ok (.iconst 1, 1) := by decide +kernel
theorem d_Mo_callsNothing_152 : decode prog_14_method_24_code 152 = .ok (.if_icmp .ne 12, 3) := by decide +kernel
theorem d_Mo_callsNothing_155 : decode prog_14_method_24_code 155 = .ok (.iload 8, 2) := by decide +kernel
theorem d_Mo_callsNothing_157 : decode prog_14_method_24_code 157 = .ok (.ifCond .ne 7, 3) := by decide +kernel
theorem d_Mo_callsNothing_160 : decode prog_14_method_24_code 160 = .ok (.iconst 1, 1) := by decide +kernel
theorem d_Mo_callsNothing_161 : decode prog_14_method_24_code 161 = .ok (.goto 4, 3) := by decide +kernel
theorem d_Mo_callsNothing_164 : decode prog_14_method_24_code 164 = .ok (.iconst 0, 1) := by decide +kernel
theorem d_Mo_callsNothing_165 : decode prog_14_method_24_code 165 = .ok (.istore_n 2, 1) := by decide +kernel
theorem d_Mo_callsNothing_166 : decode prog_14_method_24_code 166 = .ok (.iinc 5 1, 3) := by decide +kernel
theorem d_Mo_callsNothing_169 : decode prog_14_method_24_code 169 = .ok (.goto (-143), 3) := by decide +kernel
theorem d_Mo_callsNothing_172 : decode prog_14_method_24_code 172 = .ok (.iinc 3 1, 3) := by decide +kernel
theorem d_Mo_callsNothing_175 : decode prog_14_method_24_code 175 = .ok (.goto (-171), 3) := by decide +kernel
theorem d_Mo_callsNothing_178 : decode prog_14_method_24_code 178 = .ok (.iload_n 2, 1) := by decide +kernel
theorem d_Mo_callsNothing_179 : decode prog_14_method_24_code 179 = .ok (.ireturn, 1) := by decide +kernel
theorem d_Mo_plainRules_0 : decode prog_14_method_25_code 0 = .ok (.aload_n 0, 1) := by decide +kernel
theorem d_Mo_plainRules_1 : decode prog_14_method_25_code 1 = .ok (.iload_n 1, 1) := by decide +kernel
theorem d_Mo_plainRules_2 : decode prog_14_method_25_code 2 = .ok (.iconst 0, 1) := by decide +kernel
theorem d_Mo_plainRules_3 : decode prog_14_method_25_code 3 = .ok (.invokevirtual 69, 3) := by decide +kernel
theorem d_Mo_plainRules_6 : decode prog_14_method_25_code 6 = .ok (.iconst 1, 1) := by decide +kernel
theorem d_Mo_plainRules_7 : decode prog_14_method_25_code 7 = .ok (.if_icmp .lt 14, 3) := by decide +kernel
theorem d_Mo_plainRules_10 : decode prog_14_method_25_code 10 = .ok (.aload_n 0, 1) := by decide +kernel
theorem d_Mo_plainRules_11 : decode prog_14_method_25_code 11 = .ok (.iload_n 1, 1) := by decide +kernel
theorem d_Mo_plainRules_12 : decode prog_14_method_25_code 12 = .ok (.iconst 0, 1) := by decide +kernel
theorem d_Mo_plainRules_13 : decode prog_14_method_25_code 13 = .ok (.invokevirtual 69, 3) := by decide +kernel
theorem d_Mo_plainRules_16 : decode prog_14_method_25_code 16 = .ok (.bipush 9, 2) := by decide +kernel
theorem d_Mo_plainRules_18 : decode prog_14_method_25_code 18 = .ok (.if_icmp .le 5, 3) := by decide +kernel
theorem d_Mo_plainRules_21 : decode prog_14_method_25_code 21 = .ok (.iconst 1, 1) := by decide +kernel
theorem d_Mo_plainRules_22 : decode prog_14_method_25_code 22 = .ok (.ireturn, 1) := by decide +kernel
theorem d_Mo_plainRules_23 : decode prog_14_method_25_code 23 = .ok (.aload_n 0, 1) := by decide +kernel
theorem d_Mo_plainRules_24 : decode prog_14_method_25_code 24 = .ok (.iload_n 1, 1) := by decide +kernel
theorem d_Mo_plainRules_25 : decode prog_14_method_25_code 25 = .ok (.bipush 6, 2) := by decide +kernel
theorem d_Mo_plainRules_27 : decode prog_14_method_25_code 27 = .ok (.iconst 1, 1) := by decide +kernel
theorem d_Mo_plainRules_28 : decode prog_14_method_25_code 28 = .ok (.aload_n 0, 1) := by decide +kernel
theorem d_Mo_plainRules_29 : decode prog_14_method_25_code 29 = .ok (.iload_n 1, 1) := by decide +kernel
theorem d_Mo_plainRules_30 : decode prog_14_method_25_code 30 = .ok (.iconst 5, 1) := by decide +kernel
theorem d_Mo_plainRules_31 : decode prog_14_method_25_code 31 = .ok (.invokevirtual 69, 3) := by decide +kernel
theorem d_Mo_plainRules_34 : decode prog_14_method_25_code 34 = .ok (.invokevirtual 99, 3) := by decide +kernel
theorem d_Mo_plainRules_37 : decode prog_14_method_25_code 37 = .ok (.ifCond .ne 40, 3) := by decide +kernel
theorem d_Mo_plainRules_40 : decode prog_14_method_25_code 40 = .ok (.aload_n 0, 1) := by decide +kernel
theorem d_Mo_plainRules_41 : decode prog_14_method_25_code 41 = .ok (.iload_n 1, 1) := by decide +kernel
theorem d_Mo_plainRules_42 : decode prog_14_method_25_code 42 = .ok (.bipush 10, 2) := by decide +kernel
theorem d_Mo_plainRules_44 : decode prog_14_method_25_code 44 = .ok (.iconst 3, 1) := by decide +kernel
theorem d_Mo_plainRules_45 : decode prog_14_method_25_code 45 = .ok (.aload_n 0, 1) := by decide +kernel
theorem d_Mo_plainRules_46 : decode prog_14_method_25_code 46 = .ok (.iload_n 1, 1) := by decide +kernel
theorem d_Mo_plainRules_47 : decode prog_14_method_25_code 47 = .ok (.bipush 9, 2) := by decide +kernel
theorem d_Mo_plainRules_49 : decode prog_14_method_25_code 49 = .ok (.invokevirtual 69, 3) := by decide +kernel
theorem d_Mo_plainRules_52 : decode prog_14_method_25_code 52 = .ok (.invokevirtual 99, 3) := by decide +kernel
theorem d_Mo_plainRules_55 : decode prog_14_method_25_code 55 = .ok (.ifCond .ne 22, 3) := by decide +kernel
theorem d_Mo_plainRules_58 : decode prog_14_method_25_code 58 = .ok (.aload_n 0, 1) := by decide +kernel
theorem d_Mo_plainRules_59 : decode prog_14_method_25_code 59 = .ok (.iload_n 1, 1) := by decide +kernel
theorem d_Mo_plainRules_60 : decode prog_14_method_25_code 60 = .ok (.bipush 23, 2) := by decide +kernel
theorem d_Mo_plainRules_62 : decode prog_14_method_25_code 62 = .ok (.bipush 21, 2) := by decide +kernel
theorem d_Mo_plainRules_64 : decode prog_14_method_25_code 64 = .ok (.aload_n 0, 1) := by decide +kernel
theorem d_Mo_plainRules_65 : decode prog_14_method_25_code 65 = .ok (.iload_n 1, 1) := by decide +kernel
theorem d_Mo_plainRules_66 : decode prog_14_method_25_code 66 = .ok (.bipush 22, 2) := by decide +kernel
theorem d_Mo_plainRules_68 : decode prog_14_method_25_code 68 = .ok (.invokevirtual 69, 3) := by decide +kernel
theorem d_Mo_plainRules_71 : decode prog_14_method_25_code 71 = .ok (.invokevirtual 99, 3) := by decide +kernel
theorem d_Mo_plainRules_74 : decode prog_14_method_25_code 74 = .ok (.ifCond .eq 7, 3) := by decide +kernel
theorem d_Mo_plainRules_77 : decode prog_14_method_25_code 77 = .ok (.iconst 1, 1) := by decide +kernel
theorem d_Mo_plainRules_78 : decode prog_14_method_25_code 78 = .ok (.goto 4, 3) := by decide +kernel
theorem d_Mo_plainRules_81 : decode prog_14_method_25_code 81 = .ok (.iconst 0, 1) := by decide +kernel
theorem d_Mo_plainRules_82 : decode prog_14_method_25_code 82 = .ok (.istore_n 2, 1) := by decide +kernel
theorem d_Mo_plainRules_83 : decode prog_14_method_25_code 83 = .ok (.iload_n 2, 1) := by decide +kernel
theorem d_Mo_plainRules_84 : decode prog_14_method_25_code 84 = .ok (.ifCond .ne 11, 3) := by decide +kernel
theorem d_Mo_plainRules_87 : decode prog_14_method_25_code 87 = .ok (.aload_n 0, 1) := by decide +kernel
theorem d_Mo_plainRules_88 : decode prog_14_method_25_code 88 = .ok (.iload_n 1, 1) := by decide +kernel
theorem d_Mo_plainRules_89 : decode prog_14_method_25_code 89 = .ok (.invokevirtual 103, 3) := by decide +kernel
theorem d_Mo_plainRules_92 : decode prog_14_method_25_code 92 = .ok (.ifCond .eq 5, 3) := by decide +kernel
theorem d_Mo_plainRules_95 : decode prog_14_method_25_code 95 = .ok (.iconst 2, 1) := by decide +kernel
theorem d_Mo_plainRules_96 : decode prog_14_method_25_code 96 = .ok (.ireturn, 1) := by decide +kernel
theorem d_Mo_plainRules_97 : decode prog_14_method_25_code 97 = .ok (.aload_n 0, 1) := by decide +kernel
theorem d_Mo_plainRules_98 : decode prog_14_method_25_code 98 = .ok (.iload_n 1, 1) := by decide +kernel
theorem d_Mo_plainRules_99 : decode prog_14_method_25_code 99 = .ok (.invokevirtual 106, 3) := by decide +kernel
theorem d_Mo_plainRules_102 : decode prog_14_method_25_code 102 = .ok (.ifCond .eq 5, 3) := by decide +kernel
theorem d_Mo_plainRules_105 : decode prog_14_method_25_code 105 = .ok (.iconst 3, 1) := by decide +kernel
theorem d_Mo_plainRules_106 : decode prog_14_method_25_code 106 = .ok (.ireturn, 1) := by decide +kernel
theorem d_Mo_plainRules_107 : decode prog_14_method_25_code 107 = .ok (.aload_n 0, 1) := by decide +kernel
theorem d_Mo_plainRules_108 : decode prog_14_method_25_code 108 = .ok (.iload_n 1, 1) := by decide +kernel
theorem d_Mo_plainRules_109 : decode prog_14_method_25_code 109 = .ok (.iconst 2, 1) := by decide +kernel
theorem d_Mo_plainRules_110 : decode prog_14_method_25_code 110 = .ok (.invokevirtual 69, 3) := by decide +kernel
theorem d_Mo_plainRules_113 : decode prog_14_method_25_code 113 = .ok (.istore_n 3, 1) := by decide +kernel
theorem d_Mo_plainRules_114 : decode prog_14_method_25_code 114 = .ok (.iload_n 3, 1) := by decide +kernel
theorem d_Mo_plainRules_115 : decode prog_14_method_25_code 115 = .ok (.iconst (-1), 1) := by decide +kernel
theorem d_Mo_plainRules_116 : decode prog_14_method_25_code 116 = .ok (.if_icmp .eq 11, 3) := by decide +kernel
theorem d_Mo_plainRules_119 : decode prog_14_method_25_code 119 = .ok (.aload_n 0, 1) := by decide +kernel
theorem d_Mo_plainRules_120 : decode prog_14_method_25_code 120 = .ok (.iload_n 3, 1) := by decide +kernel
theorem d_Mo_plainRules_121 : decode prog_14_method_25_code 121 = .ok (.invokevirtual 77, 3) := by decide +kernel
theorem d_Mo_plainRules_124 : decode prog_14_method_25_code 124 = .ok (.ifCond .eq 11, 3) := by decide +kernel
theorem d_Mo_plainRules_127 : decode prog_14_method_25_code 127 = .ok (.aload_n 0, 1) := by decide +kernel
theorem d_Mo_plainRules_128 : decode prog_14_method_25_code 128 = .ok (.iload_n 1, 1) := by decide +kernel
theorem d_Mo_plainRules_129 : decode prog_14_method_25_code 129 = .ok (.invokevirtual 109, 3) := by decide +kernel
theorem d_Mo_plainRules_132 : decode prog_14_method_25_code 132 = .ok (.ifCond .eq 7, 3) := by decide +kernel
theorem d_Mo_plainRules_135 : decode prog_14_method_25_code 135 = .ok (.iconst 4, 1) := by decide +kernel
theorem d_Mo_plainRules_136 : decode prog_14_method_25_code 136 = .ok (.goto 4, 3) := by decide +kernel
theorem d_Mo_plainRules_139 : decode prog_14_method_25_code 139 = .ok (.iconst 0, 1) := by decide +kernel
theorem d_Mo_plainRules_140 : decode prog_14_method_25_code 140 = .ok (.ireturn, 1) := by decide +kernel
theorem d_Mo_otherInterfaces_0 : decode prog_14_method_26_code 0 = .ok (.aload_n 0, 1) := by decide +kernel
theorem d_Mo_otherInterfaces_1 : decode prog_14_method_26_code 1 = .ok (.iload_n 1, 1) := by decide +kernel
theorem d_Mo_otherInterfaces_2 : decode prog_14_method_26_code 2 = .ok (.iconst 5, 1) := by decide +kernel
theorem d_Mo_otherInterfaces_3 : decode prog_14_method_26_code 3 = .ok (.invokevirtual 69, 3) := by decide +kernel
theorem d_Mo_otherInterfaces_6 : decode prog_14_method_26_code 6 = .ok (.aload_n 0, 1) := by decide +kernel
theorem d_Mo_otherInterfaces_7 : decode prog_14_method_26_code 7 = .ok (.iload_n 2, 1) := by decide +kernel
theorem d_Mo_otherInterfaces_8 : decode prog_14_method_26_code 8 = .ok (.iconst 5, 1) := by decide +kernel
theorem d_Mo_otherInterfaces_9 : decode prog_14_method_26_code 9 = .ok (.invokevirtual 69, 3) := by decide +kernel
theorem d_Mo_otherInterfaces_12 : decode prog_14_method_26_code 12 = .ok (.if_icmp .eq 7, 3) := by decide +kernel
theorem d_Mo_otherInterfaces_15 : decode prog_14_method_26_code 15 = .ok (.iconst 1, 1) := by decide +kernel
theorem d_Mo_otherInterfaces_16 : decode prog_14_method_26_code 16 = .ok (.goto 4, 3) := by decide +kernel
theorem d_Mo_otherInterfaces_19 : decode prog_14_method_26_code 19 = .ok (.iconst 0, 1) := by decide +kernel
theorem d_Mo_otherInterfaces_20 : decode prog_14_method_26_code 20 = .ok (.istore_n 3, 1) := by decide +kernel
theorem d_Mo_otherInterfaces_21 : decode prog_14_method_26_code 21 = .ok (.iconst 0, 1) := by decide +kernel
theorem d_Mo_otherInterfaces_22 : decode prog_14_method_26_code 22 = .ok (.istore 4, 2) := by decide +kernel
theorem d_Mo_otherInterfaces_24 : decode prog_14_method_26_code 24 = .ok (.iload 4, 2) := by decide +kernel
theorem d_Mo_otherInterfaces_26 : decode prog_14_method_26_code 26 = .ok (.aload_n 0, 1) := by decide +kernel
theorem d_Mo_otherInterfaces_27 : decode prog_14_method_26_code 27 = .ok (.iload_n 1, 1) := by decide +kernel
theorem d_Mo_otherInterfaces_28 : decode prog_14_method_26_code 28 = .ok (.iconst 5, 1) := by decide +kernel
theorem d_Mo_otherInterfaces_29 : decode prog_14_method_26_code 29 = .ok (.invokevirtual 69, 3) := by decide +kernel
theorem d_Mo_otherInterfaces_32 : decode prog_14_method_26_code 32 = .ok (.if_icmp .ge 82, 3) := by decide +kernel
theorem d_Mo_otherInterfaces_35 : decode prog_14_method_26_code 35 = .ok (.iconst 0, 1) := by decide +kernel
theorem d_Mo_otherInterfaces_36 : decode prog_14_method_26_code 36 = .ok (.istore 5, 2) := by decide +kernel
theorem d_Mo_otherInterfaces_38 : decode prog_14_method_26_code 38 = .ok (.iconst 0, 1) := by decide +kernel
theorem d_Mo_otherInterfaces_39 : decode prog_14_method_26_code 39 = .ok (.istore 6, 2) := by decide +kernel
theorem d_Mo_otherInterfaces_41 : decode prog_14_method_26_code 41 = .ok (.iload 6, 2) := by decide +kernel
theorem d_Mo_otherInterfaces_43 : decode prog_14_method_26_code 43 = .ok (.aload_n 0, 1) := by decide +kernel
theorem d_Mo_otherInterfaces_44 : decode prog_14_method_26_code 44 = .ok (.iload_n 2, 1) := by decide +kernel
theorem d_Mo_otherInterfaces_45 : decode prog_14_method_26_code 45 = .ok (.iconst 5, 1) := by decide +kernel
theorem d_Mo_otherInterfaces_46 : decode prog_14_method_26_code 46 = .ok (.invokevirtual 69, 3) := by decide +kernel
theorem d_Mo_otherInterfaces_49 : decode prog_14_method_26_code 49 = .ok (.if_icmp .ge 44, 3) := by decide +kernel
theorem d_Mo_otherInterfaces_52 : decode prog_14_method_26_code 52 = .ok (.iload 5, 2) := by decide +kernel
theorem d_Mo_otherInterfaces_54 : decode prog_14_method_26_code 54 = .ok (.ifCond .ne 26, 3) := by decide +kernel
theorem d_Mo_otherInterfaces_57 : decode prog_14_method_26_code 57 = .ok (.aload_n 0, 1) := by decide +kernel
theorem d_Mo_otherInterfaces_58 : decode prog_14_method_26_code 58 = .ok (.iload_n 1, 1) := by decide +kernel
theorem d_Mo_otherInterfaces_59 : decode prog_14_method_26_code 59 = .ok (.bipush 6, 2) := by decide +kernel
theorem d_Mo_otherInterfaces_61 : decode prog_14_method_26_code 61 = .ok (.iload 4, 2) := by decide +kernel
theorem d_Mo_otherInterfaces_63 : decode prog_14_method_26_code 63 = .ok (.iadd, 1) := by decide +kernel
theorem d_Mo_otherInterfaces_64 : decode prog_14_method_26_code 64 = .ok (.invokevirtual 69, 3) := by decide +kernel
theorem d_Mo_otherInterfaces_67 : decode prog_14_method_26_code 67 = .ok (.aload_n 0, 1) := by decide +kernel
theorem d_Mo_otherInterfaces_68 : decode prog_14_method_26_code 68 = .ok (.iload_n 2, 1) := by decide +kernel
theorem d_Mo_otherInterfaces_69 : decode prog_14_method_26_code 69 = .ok (.bipush 6, 2) := by decide +kernel
theorem d_Mo_otherInterfaces_71 : decode prog_14_method_26_code 71 = .ok (.iload 6, 2) := by decide +kernel
theorem d_Mo_otherInterfaces_73 : decode prog_14_method_26_code 73 = .ok (.iadd, 1) := by decide +kernel
theorem d_Mo_otherInterfaces_74 : decode prog_14_method_26_code 74 = .ok (.invokevirtual 69, 3) := by decide +kernel
theorem d_Mo_otherInterfaces_77 : decode prog_14_method_26_code 77 = .ok (.if_icmp .ne 7, 3) := by decide +kernel
theorem d_Mo_otherInterfaces_80 : decode prog_14_method_26_code 80 = .ok (.iconst 1, 1) := by decide +kernel
theorem d_Mo_otherInterfaces_81 : decode prog_14_method_26_code 81 = .ok (.goto 4, 3) := by decide +kernel
theorem d_Mo_otherInterfaces_84 : decode prog_14_method_26_code 84 = .ok (.iconst 0, 1) := by decide +kernel
theorem d_Mo_otherInterfaces_85 : decode prog_14_method_26_code 85 = .ok (.istore 5, 2) := by decide +kernel
theorem d_Mo_otherInterfaces_87 : decode prog_14_method_26_code 87 = .ok (.iinc 6 1, 3) := by decide +kernel
theorem d_Mo_otherInterfaces_90 : decode prog_14_method_26_code 90 = .ok (.goto (-49), 3) := by decide +kernel
theorem d_Mo_otherInterfaces_93 : decode prog_14_method_26_code 93 = .ok (.iload_n 3, 1) := by decide +kernel
theorem d_Mo_otherInterfaces_94 : decode prog_14_method_26_code 94 = .ok (.ifCond .ne 8, 3) := by decide +kernel
theorem d_Mo_otherInterfaces_97 : decode prog_14_method_26_code 97 = .ok (.iload 5, 2) := by decide +kernel
theorem d_Mo_otherInterfaces_99 : decode prog_14_method_26_code 99 = .ok (.ifCond .ne 7, 3) := by decide +kernel
theorem d_Mo_otherInterfaces_102 : decode prog_14_method_26_code 102 = .ok (.iconst 1, 1) := by decide +kernel
theorem d_Mo_otherInterfaces_103 : decode prog_14_method_26_code 103 = .ok (.goto 4, 3) := by decide +kernel
theorem d_Mo_otherInterfaces_106 : decode prog_14_method_26_code 106 = .ok (.iconst 0, 1) := by decide +kernel
theorem d_Mo_otherInterfaces_107 : decode prog_14_method_26_code 107 = .ok (.istore_n 3, 1) := by decide +kernel
theorem d_Mo_otherInterfaces_108 : decode prog_14_method_26_code 108 = .ok (.iinc 4 1, 3) := by decide +kernel
theorem d_Mo_otherInterfaces_111 : decode prog_14_method_26_code 111 = .ok (.goto (-87), 3) := by decide +kernel
theorem d_Mo_otherInterfaces_114 : decode prog_14_method_26_code 114 = .ok (.iload_n 3, 1) := by decide +kernel
theorem d_Mo_otherInterfaces_115 : decode prog_14_method_26_code 115 = .ok (.ireturn, 1) := by decide +kernel
theorem d_Mo_otherFields_0 : decode prog_14_method_27_code 0 = .ok (.aload_n 0, 1) := by decide +kernel
theorem d_Mo_otherFields_1 : decode prog_14_method_27_code 1 = .ok (.iload_n 1, 1) := by decide +kernel
theorem d_Mo_otherFields_2 : decode prog_14_method_27_code 2 = .ok (.bipush 9, 2) := by decide +kernel
theorem d_Mo_otherFields_4 : decode prog_14_method_27_code 4 = .ok (.invokevirtual 69, 3) := by decide +kernel
theorem d_Mo_otherFields_7 : decode prog_14_method_27_code 7 = .ok (.aload_n 0, 1) := by decide +kernel
theorem d_Mo_otherFields_8 : decode prog_14_method_27_code 8 = .ok (.iload_n 2, 1) := by decide +kernel
theorem d_Mo_otherFields_9 : decode prog_14_method_27_code 9 = .ok (.bipush 9, 2) := by decide +kernel
theorem d_Mo_otherFields_11 : decode prog_14_method_27_code 11 = .ok (.invokevirtual 69, 3) := by decide +kernel
theorem d_Mo_otherFields_14 : decode prog_14_method_27_code 14 = .ok (.if_icmp .eq 7, 3) := by decide +kernel
theorem d_Mo_otherFields_17 : decode prog_14_method_27_code 17 = .ok (.iconst 1, 1) := by decide +kernel
theorem d_Mo_otherFields_18 : decode prog_14_method_27_code 18 = .ok (.goto 4, 3) := by decide +kernel
theorem d_Mo_otherFields_21 : decode prog_14_method_27_code 21 = .ok (.iconst 0, 1) := by decide +kernel
theorem d_Mo_otherFields_22 : decode prog_14_method_27_code 22 = .ok (.istore_n 3, 1) := by decide +kernel
theorem d_Mo_otherFields_23 : decode prog_14_method_27_code 23 = .ok (.iconst 0, 1) := by decide +kernel
theorem d_Mo_otherFields_24 : decode prog_14_method_27_code 24 = .ok (.istore 4, 2) := by decide +kernel
theorem d_Mo_otherFields_26 : decode prog_14_method_27_code 26 = .ok (.iload 4, 2) := by decide +kernel
theorem d_Mo_otherFields_28 : decode prog_14_method_27_code 28 = .ok (.iconst 3, 1) := by decide +kernel
theorem d_Mo_otherFields_29 : decode prog_14_method_27_code 29 = .ok (.aload_n 0, 1) := by decide +kernel
theorem d_Mo_otherFields_30 : decode prog_14_method_27_code 30 = .ok (.iload_n 1, 1) := by decide +kernel
theorem d_Mo_otherFields_31 : decode prog_14_method_27_code 31 = .ok (.bipush 9, 2) := by decide +kernel
theorem d_Mo_otherFields_33 : decode prog_14_method_27_code 33 = .ok (.invokevirtual 69, 3) := by decide +kernel
theorem d_Mo_otherFields_36 : decode prog_14_method_27_code 36 = .ok (.imul, 1) := by decide +kernel
theorem d_Mo_otherFields_37 : decode prog_14_method_27_code 37 = .ok (.if_icmp .ge 42, 3) := by decide +kernel
theorem d_Mo_otherFields_40 : decode prog_14_method_27_code 40 = .ok (.iload_n 3, 1) := by decide +kernel
theorem d_Mo_otherFields_41 : decode prog_14_method_27_code 41 = .ok (.ifCond .ne 38, 3) := by decide +kernel
theorem d_Mo_otherFields_44 : decode prog_14_method_27_code 44 = .ok (.aload_n 0, 1) := by decide +kernel
theorem d_Mo_otherFields_45 : decode prog_14_method_27_code 45 = .ok (.iload_n 1, 1) := by decide +kernel
theorem d_Mo_otherFields_46 : decode prog_14_method_27_code 46 = .ok (.bipush 10, 2) := by decide +kernel
theorem d_Mo_otherFields_48 : decode prog_14_method_27_code 48 = .ok (.iload 4, 2) := by decide +kernel
theorem d_Mo_otherFields_50 : decode prog_14_method_27_code 50 = .ok (.iadd, 1) := by decide +kernel
theorem d_Mo_otherFields_51 : decode prog_14_method_27_code 51 = .ok (.invokevirtual 69, 3) := by decide +kernel
theorem d_Mo_otherFields_54 : decode prog_14_method_27_code 54 = .ok (.aload_n 0, 1) := by decide +kernel
theorem d_Mo_otherFields_55 : decode prog_14_method_27_code 55 = .ok (.iload_n 2, 1) := by decide +kernel
theorem d_Mo_otherFields_56 : decode prog_14_method_27_code 56 = .ok (.bipush 10, 2) := by decide +kernel
theorem d_Mo_otherFields_58 : decode prog_14_method_27_code 58 = .ok (.iload 4, 2) := by decide +kernel
theorem d_Mo_otherFields_60 : decode prog_14_method_27_code 60 = .ok (.iadd, 1) := by decide +kernel
theorem d_Mo_otherFields_61 : decode prog_14_method_27_code 61 = .ok (.invokevirtual 69, 3) := by decide +kernel
theorem d_Mo_otherFields_64 : decode prog_14_method_27_code 64 = .ok (.if_icmp .eq 7, 3) := by decide +kernel
theorem d_Mo_otherFields_67 : decode prog_14_method_27_code 67 = .ok (.iconst 1, 1) := by decide +kernel
theorem d_Mo_otherFields_68 : decode prog_14_method_27_code 68 = .ok (.goto 4, 3) := by decide +kernel
theorem d_Mo_otherFields_71 : decode prog_14_method_27_code 71 = .ok (.iconst 0, 1) := by decide +kernel
theorem d_Mo_otherFields_72 : decode prog_14_method_27_code 72 = .ok (.istore_n 3, 1) := by decide +kernel
theorem d_Mo_otherFields_73 : decode prog_14_method_27_code 73 = .ok (.iinc 4 1, 3) := by decide +kernel
theorem d_Mo_otherFields_76 : decode prog_14_method_27_code 76 = .ok (.goto (-50), 3) := by decide +kernel
theorem d_Mo_otherFields_79 : decode prog_14_method_27_code 79 = .ok (.iload_n 3, 1) := by decide +kernel
theorem d_Mo_otherFields_80 : decode prog_14_method_27_code 80 = .ok (.ireturn, 1) := by decide +kernel
theorem d_Mo_moreMethods_0 : decode prog_14_method_28_code 0 = .ok (.iconst 0, 1) := by decide +kernel
theorem d_Mo_moreMethods_1 : decode prog_14_method_28_code 1 = .ok (.istore_n 3, 1) := by decide +kernel
theorem d_Mo_moreMethods_2 : decode prog_14_method_28_code 2 = .ok (.iconst 0, 1) := by decide +kernel
theorem d_Mo_moreMethods_3 : decode prog_14_method_28_code 3 = .ok (.istore 4, 2) := by decide +kernel
theorem d_Mo_moreMethods_5 : decode prog_14_method_28_code 5 = .ok (.iload 4, 2) := by decide +kernel
theorem d_Mo_moreMethods_7 : decode prog_14_method_28_code 7 = .ok (.aload_n 0, 1) := by decide +kernel
theorem d_Mo_moreMethods_8 : decode prog_14_method_28_code 8 = .ok (.iload_n 1, 1) := by decide +kernel
theorem d_Mo_moreMethods_9 : decode prog_14_method_28_code 9 = .ok (.bipush 22, 2) := by decide +kernel
theorem d_Mo_moreMethods_11 : decode prog_14_method_28_code 11 = .ok (.invokevirtual 69, 3) := by decide +kernel
theorem d_Mo_moreMethods_14 : decode prog_14_method_28_code 14 = .ok (.if_icmp .ge 38, 3) := by decide +kernel
theorem d_Mo_moreMethods_17 : decode prog_14_method_28_code 17 = .ok (.iload_n 3, 1) := by decide +kernel
theorem d_Mo_moreMethods_18 : decode prog_14_method_28_code 18 = .ok (.ifCond .ne 22, 3) := by decide +kernel
theorem d_Mo_moreMethods_21 : decode prog_14_method_28_code 21 = .ok (.aload_n 0, 1) := by decide +kernel
theorem d_Mo_moreMethods_22 : decode prog_14_method_28_code 22 = .ok (.iload_n 2, 1) := by decide +kernel
theorem d_Mo_moreMethods_23 : decode prog_14_method_28_code 23 = .ok (.aload_n 0, 1) := by decide +kernel
theorem d_Mo_moreMethods_24 : decode prog_14_method_28_code 24 = .ok (.iload_n 1, 1) := by decide +kernel
theorem d_Mo_moreMethods_25 : decode prog_14_method_28_code 25 = .ok (.iload 4, 2) := by decide +kernel
theorem d_Mo_moreMethods_27 : decode prog_14_method_28_code 27 = .ok (.invokestatic 85, 3) := by decide +kernel
theorem d_Mo_moreMethods_30 : decode prog_14_method_28_code 30 = .ok (.invokevirtual 69, 3) := by decide +kernel
theorem d_Mo_moreMethods_33 : decode prog_14_method_28_code 33 = .ok (.invokevirtual 89, 3) := by decide +kernel
theorem d_Mo_moreMethods_36 : decode prog_14_method_28_code 36 = .ok (.iconst (-1), 1) := by decide +kernel
theorem d_Mo_moreMethods_37 : decode prog_14_method_28_code 37 = .ok (.if_icmp .ne 7, 3) := by decide +kernel
theorem d_Mo_moreMethods_40 : decode prog_14_method_28_code 40 = .ok (.iconst 1, 1) := by decide +kernel
theorem d_Mo_moreMethods_41 : decode prog_14_method_28_code 41 = .ok (.goto 4, 3) := by decide +kernel
theorem d_Mo_moreMethods_44 : decode prog_14_method_28_code 44 = .ok (.iconst 0, 1) := by decide +kernel
theorem d_Mo_moreMethods_45 : decode prog_14_method_28_code 45 = .ok (.istore_n 3, 1) := by decide +kernel
theorem d_Mo_moreMethods_46 : decode prog_14_method_28_code 46 = .ok (.iinc 4 1, 3) := by decide +kernel
theorem d_Mo_moreMethods_49 : decode prog_14_method_28_code 49 = .ok (.goto (-44), 3) := by decide +kernel
theorem d_Mo_moreMethods_52 : decode prog_14_method_28_code 52 = .ok (.iload_n 3, 1) := by decide +kernel
theorem d_Mo_moreMethods_53 : decode prog_14_method_28_code 53 = .ok (.ireturn, 1) := by decide +kernel
theorem d_Mo_otherMethodFlags_0 : decode prog_14_method_29_code 0 = .ok (.iconst 0, 1) := by decide +kernel
theorem d_Mo_otherMethodFlags_1 : decode prog_14_method_29_code 1 = .ok (.istore_n 3, 1) := by decide +kernel
theorem d_Mo_otherMethodFlags_2 : decode prog_14_method_29_code 2 = .ok (.iconst 0, 1) := by decide +kernel
theorem d_Mo_otherMethodFlags_3 : decode prog_14_method_29_code 3 = .ok (.istore 4, 2) := by decide +kernel
theorem d_Mo_otherMethodFlags_5 : decode prog_14_method_29_code 5 = .ok (.iload 4, 2) := by decide +kernel
theorem d_Mo_otherMethodFlags_7 : decode prog_14_method_29_code 7 = .ok (.aload_n 0, 1) := by decide +kernel
theorem d_Mo_otherMethodFlags_8 : decode prog_14_method_29_code 8 = .ok (.iload_n 1, 1) := by decide +kernel
theorem d_Mo_otherMethodFlags_9 : decode prog_14_method_29_code 9 = .ok (.bipush 22, 2) := by decide +kernel
theorem d_Mo_otherMethodFlags_11 : decode prog_14_method_29_code 11 = .ok (.invokevirtual 69, 3) := by decide +kernel
theorem d_Mo_otherMethodFlags_14 : decode prog_14_method_29_code 14 = .ok (.if_icmp .ge 67, 3) := by decide +kernel
theorem d_Mo_otherMethodFlags_17 : decode prog_14_method_29_code 17 = .ok (.iload 4, 2) := by decide +kernel
theorem d_Mo_otherMethodFlags_19 : decode prog_14_method_29_code 19 = .ok (.invokestatic 85, 3) := by decide +kernel
theorem d_Mo_otherMethodFlags_22 : decode prog_14_method_29_code 22 = .ok (.istore 5, 2) := by decide +kernel
theorem d_Mo_otherMethodFlags_24 : decode prog_14_method_29_code 24 = .ok (.aload_n 0, 1) := by decide +kernel
theorem d_Mo_otherMethodFlags_25 : decode prog_14_method_29_code 25 = .ok (.iload_n 2, 1) := by decide +kernel
theorem d_Mo_otherMethodFlags_26 : decode prog_14_method_29_code 26 = .ok (.aload_n 0, 1) := by decide +kernel
theorem d_Mo_otherMethodFlags_27 : decode prog_14_method_29_code 27 = .ok (.iload_n 1, 1) := by decide +kernel
theorem d_Mo_otherMethodFlags_28 : decode prog_14_method_29_code 28 = .ok (.iload 5, 2) := by decide +kernel
theorem d_Mo_otherMethodFlags_30 : decode prog_14_method_29_code 30 = .ok (.invokevirtual 69, 3) := by decide +kernel
theorem d_Mo_otherMethodFlags_33 : decode prog_14_method_29_code 33 = .ok (.invokevirtual 89, 3) := by decide +kernel
theorem d_Mo_otherMethodFlags_36 : decode prog_14_method_29_code 36 = .ok (.istore 6, 2) := by decide +kernel
theorem d_Mo_otherMethodFlags_38 : decode prog_14_method_29_code 38 = .ok (.iload_n 3, 1) := by decide +kernel
theorem d_Mo_otherMethodFlags_39 : decode prog_14_method_29_code 39 = .ok (.ifCond .ne 30, 3) := by decide +kernel
theorem d_Mo_otherMethodFlags_42 : decode prog_14_method_29_code 42 = .ok (.iload 6, 2) := by decide +kernel
theorem d_Mo_otherMethodFlags_44 : decode prog_14_method_29_code 44 = .ok (.iconst (-1), 1) := by decide +kernel
theorem d_Mo_otherMethodFlags_45 : decode prog_14_method_29_code 45 = .ok (.if_icmp .eq 28, 3) := by decide +kernel
theorem d_Mo_otherMethodFlags_48 : decode prog_14_method_29_code 48 = .ok (.aload_n 0, 1) := by decide +kernel
theorem d_Mo_otherMethodFlags_49 : decode prog_14_method_29_code 49 = .ok (.iload_n 1, 1) := by decide +kernel
theorem d_Mo_otherMethodFlags_50 : decode prog_14_method_29_code 50 = .ok (.iload 5, 2) := by decide +kernel
theorem d_Mo_otherMethodFlags_52 : decode prog_14_method_29_code 52 = .ok (.iconst 1, 1) := by decide +kernel
theorem d_Mo_otherMethodFlags_53 : decode prog_14_method_29_code 53 = .ok (.iadd, 1) := by decide +kernel
theorem d_Mo_otherMethodFlags_54 : decode prog_14_method_29_code 54 = .ok (.invokevirtual 69, 3) := by decide +kernel
theorem d_Mo_otherMethodFlags_57 : decode prog_14_method_29_code 57 = .ok (.aload_n 0, 1) := by decide +kernel
theorem d_Mo_otherMethodFlags_58 : decode prog_14_method_29_code 58 = .ok (.iload_n 2, 1) := by decide +kernel
theorem d_Mo_otherMethodFlags_59 : decode prog_14_method_29_code 59 = .ok (.iload 6, 2) := by decide +kernel
theorem d_Mo_otherMethodFlags_61 : decode prog_14_method_29_code 61 = .ok (.iconst 1, 1) := by decide +kernel
theorem d_Mo_otherMethodFlags_62 : decode prog_14_method_29_code 62 = .ok (.iadd, 1) := by decide +kernel
theorem d_Mo_otherMethodFlags_63 : decode prog_14_method_29_code 63 = .ok (.invokevirtual 69, 3) := by decide +kernel
theorem d_Mo_otherMethodFlags_66 : decode prog_14_method_29_code 66 = .ok (.if_icmp .eq 7, 3) := by decide +kernel
theorem d_Mo_otherMethodFlags_69 : decode prog_14_method_29_code 69 = .ok (.iconst 1, 1) := by decide +kernel
theorem d_Mo_otherMethodFlags_70 : decode prog_14_method_29_code 70 = .ok (.goto 4, 3) := by decide +kernel
theorem d_Mo_otherMethodFlags_73 : decode prog_14_method_29_code 73 = .ok (.iconst 0, 1) := by decide +kernel
theorem d_Mo_otherMethodFlags_74 : decode prog_14_method_29_code 74 = .ok (.istore_n 3, 1) := by decide +kernel
theorem d_Mo_otherMethodFlags_75 : decode prog_14_method_29_code 75 = .ok (.iinc 4 1, 3) := by decide +kernel
theorem d_Mo_otherMethodFlags_78 : decode prog_14_method_29_code 78 = .ok (.goto (-73), 3) := by decide +kernel
theorem d_Mo_otherMethodFlags_81 : decode prog_14_method_29_code 81 = .ok (.iload_n 3, 1) := by decide +kernel
theorem d_Mo_otherMethodFlags_82 : decode prog_14_method_29_code 82 = .ok (.ireturn, 1) := by decide +kernel
theorem d_Mo_rules_0 : decode prog_14_method_30_code 0 = .ok (.aload_n 0, 1) := by decide +kernel
theorem d_Mo_rules_1 : decode prog_14_method_30_code 1 = .ok (.iload_n 1, 1) := by decide +kernel
theorem d_Mo_rules_2 : decode prog_14_method_30_code 2 = .ok (.invokevirtual 112, 3) := by decide +kernel
theorem d_Mo_rules_5 : decode prog_14_method_30_code 5 = .ok (.istore_n 3, 1) := by decide +kernel
theorem d_Mo_rules_6 : decode prog_14_method_30_code 6 = .ok (.iload_n 3, 1) := by decide +kernel
theorem d_Mo_rules_7 : decode prog_14_method_30_code 7 = .ok (.ifCond .le 5, 3) := by decide +kernel
theorem d_Mo_rules_10 : decode prog_14_method_30_code 10 = .ok (.iload_n 3, 1) := by decide +kernel
theorem d_Mo_rules_11 : decode prog_14_method_30_code 11 = .ok (.ireturn, 1) := by decide +kernel
theorem d_Mo_rules_12 : decode prog_14_method_30_code 12 = .ok (.aload_n 0, 1) := by decide +kernel
theorem d_Mo_rules_13 : decode prog_14_method_30_code 13 = .ok (.getfield 17, 3) := by decide +kernel
theorem d_Mo_rules_16 : decode prog_14_method_30_code 16 = .ok (.iload_n 2, 1) := by decide +kernel
theorem d_Mo_rules_17 : decode prog_14_method_30_code 17 = .ok (.iaload, 1) := by decide +kernel
theorem d_Mo_rules_18 : decode prog_14_method_30_code 18 = .ok (.istore 4, 2) := by decide +kernel
theorem d_Mo_rules_20 : decode prog_14_method_30_code 20 = .ok (.aload_n 0, 1) := by decide +kernel
theorem d_Mo_rules_21 : decode prog_14_method_30_code 21 = .ok (.iload_n 1, 1) := by decide +kernel
theorem d_Mo_rules_22 : decode prog_14_method_30_code 22 = .ok (.iconst 1, 1) := by decide +kernel
theorem d_Mo_rules_23 : decode prog_14_method_30_code 23 = .ok (.invokevirtual 69, 3) := by decide +kernel
theorem d_Mo_rules_26 : decode prog_14_method_30_code 26 = .ok (.iload_n 2, 1) := by decide +kernel
theorem d_Mo_rules_27 : decode prog_14_method_30_code 27 = .ok (.if_icmp .eq 5, 3) := by decide +kernel
theorem d_Mo_rules_30 : decode prog_14_method_30_code 30 = .ok (.iconst 5, 1) := by decide +kernel
theorem d_Mo_rules_31 : decode prog_14_method_30_code 31 = .ok (.ireturn, 1) := by decide +kernel
theorem d_Mo_rules_32 : decode prog_14_method_30_code 32 = .ok (.aload_n 0, 1) := by decide +kernel
theorem d_Mo_rules_33 : decode prog_14_method_30_code 33 = .ok (.iload_n 1, 1) := by decide +kernel
theorem d_Mo_rules_34 : decode prog_14_method_30_code 34 = .ok (.iconst 2, 1) := by decide +kernel
theorem d_Mo_rules_35 : decode prog_14_method_30_code 35 = .ok (.invokevirtual 69, 3) := by decide +kernel
theorem d_Mo_rules_38 : decode prog_14_method_30_code 38 = .ok (.aload_n 0, 1) := by decide +kernel
theorem d_Mo_rules_39 : decode prog_14_method_30_code 39 = .ok (.iload 4, 2) := by decide +kernel
theorem d_Mo_rules_41 : decode prog_14_method_30_code 41 = .ok (.iconst 2, 1) := by decide +kernel
theorem d_Mo_rules_42 : decode prog_14_method_30_code 42 = .ok (.invokevirtual 69, 3) := by decide +kernel
theorem d_Mo_rules_45 : decode prog_14_method_30_code 45 = .ok (.if_icmp .ne 13, 3) := by decide +kernel
theorem d_Mo_rules_48 : decode prog_14_method_30_code 48 = .ok (.aload_n 0, 1) := by decide +kernel
theorem d_Mo_rules_49 : decode prog_14_method_30_code 49 = .ok (.iload_n 1, 1) := by decide +kernel
theorem d_Mo_rules_50 : decode prog_14_method_30_code 50 = .ok (.iload 4, 2) := by decide +kernel
theorem d_Mo_rules_52 : decode prog_14_method_30_code 52 = .ok (.invokevirtual 115, 3) := by decide +kernel
theorem d_Mo_rules_55 : decode prog_14_method_30_code 55 = .ok (.ifCond .eq 6, 3) := by decide +kernel
theorem d_Mo_rules_58 : decode prog_14_method_30_code 58 = .ok (.bipush 6, 2) := by decide +kernel
theorem d_Mo_rules_60 : decode prog_14_method_30_code 60 = .ok (.ireturn, 1) := by decide +kernel
theorem d_Mo_rules_61 : decode prog_14_method_30_code 61 = .ok (.aload_n 0, 1) := by decide +kernel
theorem d_Mo_rules_62 : decode prog_14_method_30_code 62 = .ok (.iload_n 1, 1) := by decide +kernel
theorem d_Mo_rules_63 : decode prog_14_method_30_code 63 = .ok (.iload 4, 2) := by decide +kernel
theorem d_Mo_rules_65 : decode prog_14_method_30_code 65 = .ok (.invokevirtual 119, 3) := by decide +kernel
theorem d_Mo_rules_68 : decode prog_14_method_30_code 68 = .ok (.ifCond .eq 6, 3) := by decide +kernel
theorem d_Mo_rules_71 : decode prog_14_method_30_code 71 = .ok (.bipush 7, 2) := by decide +kernel
theorem d_Mo_rules_73 : decode prog_14_method_30_code 73 = .ok (.ireturn, 1) := by decide +kernel
theorem d_Mo_rules_74 : decode prog_14_method_30_code 74 = .ok (.aload_n 0, 1) := by decide +kernel
theorem d_Mo_rules_75 : decode prog_14_method_30_code 75 = .ok (.iload_n 1, 1) := by decide +kernel
theorem d_Mo_rules_76 : decode prog_14_method_30_code 76 = .ok (.iload 4, 2) := by decide +kernel
theorem d_Mo_rules_78 : decode prog_14_method_30_code 78 = .ok (.invokevirtual 122, 3) := by decide +kernel
theorem d_Mo_rules_81 : decode prog_14_method_30_code 81 = .ok (.ifCond .eq 6, 3) := by decide +kernel
theorem d_Mo_rules_84 : decode prog_14_method_30_code 84 = .ok (.bipush 8, 2) := by decide +kernel
theorem d_Mo_rules_86 : decode prog_14_method_30_code 86 = .ok (.ireturn, 1) := by decide +kernel
theorem d_Mo_rules_87 : decode prog_14_method_30_code 87 = .ok (.aload_n 0, 1) := by decide +kernel
theorem d_Mo_rules_88 : decode prog_14_method_30_code 88 = .ok (.iload 4, 2) := by decide +kernel
theorem d_Mo_rules_90 : decode prog_14_method_30_code 90 = .ok (.iload_n 1, 1) := by decide +kernel
theorem d_Mo_rules_91 : decode prog_14_method_30_code 91 = .ok (.invokevirtual 122, 3) := by decide +kernel
theorem d_Mo_rules_94 : decode prog_14_method_30_code 94 = .ok (.ifCond .eq 6, 3) := by decide +kernel
theorem d_Mo_rules_97 : decode prog_14_method_30_code 97 = .ok (.bipush 9, 2) := by decide +kernel
theorem d_Mo_rules_99 : decode prog_14_method_30_code 99 = .ok (.ireturn, 1) := by decide +kernel
theorem d_Mo_rules_100 : decode prog_14_method_30_code 100 = .ok (.aload_n 0, 1) := by decide +kernel
theorem d_Mo_rules_101 : decode prog_14_method_30_code 101 = .ok (.iload_n 1, 1) := by decide +kernel
theorem d_Mo_rules_102 : decode prog_14_method_30_code 102 = .ok (.iconst 3, 1) := by decide +kernel
theorem d_Mo_rules_103 : decode prog_14_method_30_code 103 = .ok (.invokevirtual 69, 3) := by decide +kernel
theorem d_Mo_rules_106 : decode prog_14_method_30_code 106 = .ok (.aload_n 0, 1) := by decide +kernel
theorem d_Mo_rules_107 : decode prog_14_method_30_code 107 = .ok (.iload 4, 2) := by decide +kernel
theorem d_Mo_rules_109 : decode prog_14_method_30_code 109 = .ok (.iconst 3, 1) := by decide +kernel
theorem d_Mo_rules_110 : decode prog_14_method_30_code 110 = .ok (.invokevirtual 69, 3) := by decide +kernel
theorem d_Mo_rules_113 : decode prog_14_method_30_code 113 = .ok (.if_icmp .eq 6, 3) := by decide +kernel
theorem d_Mo_rules_116 : decode prog_14_method_30_code 116 = .ok (.bipush 10, 2) := by decide +kernel
theorem d_Mo_rules_118 : decode prog_14_method_30_code 118 = .ok (.ireturn, 1) := by decide +kernel
theorem d_Mo_rules_119 : decode prog_14_method_30_code 119 = .ok (.aload_n 0, 1) := by decide +kernel
theorem d_Mo_rules_120 : decode prog_14_method_30_code 120 = .ok (.iload_n 1, 1) := by decide +kernel
theorem d_Mo_rules_121 : decode prog_14_method_30_code 121 = .ok (.iload 4, 2) := by decide +kernel
theorem d_Mo_rules_123 : decode prog_14_method_30_code 123 = .ok (.invokevirtual 125, 3) := by decide +kernel
theorem d_Mo_rules_126 : decode prog_14_method_30_code 126 = .ok (.ifCond .eq 6, 3) := by decide +kernel
theorem d_Mo_rules_129 : decode prog_14_method_30_code 129 = .ok (.bipush 11, 2) := by decide +kernel
theorem d_Mo_rules_131 : decode prog_14_method_30_code 131 = .ok (.ireturn, 1) := by decide +kernel
theorem d_Mo_rules_132 : decode prog_14_method_30_code 132 = .ok (.aload_n 0, 1) := by decide +kernel
theorem d_Mo_rules_133 : decode prog_14_method_30_code 133 = .ok (.iload_n 1, 1) := by decide +kernel
theorem d_Mo_rules_134 : decode prog_14_method_30_code 134 = .ok (.iconst 4, 1) := by decide +kernel
theorem d_Mo_rules_135 : decode prog_14_method_30_code 135 = .ok (.invokevirtual 69, 3) := by decide +kernel
theorem d_Mo_rules_138 : decode prog_14_method_30_code 138 = .ok (.aload_n 0, 1) := by decide +kernel
theorem d_Mo_rules_139 : decode prog_14_method_30_code 139 = .ok (.iload 4, 2) := by decide +kernel
theorem d_Mo_rules_141 : decode prog_14_method_30_code 141 = .ok (.iconst 4, 1) := by decide +kernel
theorem d_Mo_rules_142 : decode prog_14_method_30_code 142 = .ok (.invokevirtual 69, 3) := by decide +kernel
theorem d_Mo_rules_145 : decode prog_14_method_30_code 145 = .ok (.if_icmp .eq 8, 3) := by decide +kernel
theorem d_Mo_rules_148 : decode prog_14_method_30_code 148 = .ok (.bipush 12, 2) := by decide +kernel
theorem d_Mo_rules_150 : decode prog_14_method_30_code 150 = .ok (.goto 4, 3) := by decide +kernel
theorem d_Mo_rules_153 : decode prog_14_method_30_code 153 = .ok (.iconst 0, 1) := by decide +kernel
theorem d_Mo_rules_154 : decode prog_14_method_30_code 154 = .ok (.ireturn, 1) := by decide +kernel
theorem d_Mo_inFrames_0 : decode prog_14_method_31_code 0 = .ok (.iconst 0, 1) := by decide +kernel
theorem d_Mo_inFrames_1 : decode prog_14_method_31_code 1 = .ok (.istore_n 2, 1) := by decide +kernel
theorem d_Mo_inFrames_2 : decode prog_14_method_31_code 2 = .ok (.iconst 0, 1) := by decide +kernel
theorem d_Mo_inFrames_3 : decode prog_14_method_31_code 3 = .ok (.istore_n 3, 1) := by decide +kernel
theorem d_Mo_inFrames_4 : decode prog_14_method_31_code 4 = .ok (.iload_n 3, 1) := by decide +kernel
theorem d_Mo_inFrames_5 : decode prog_14_method_31_code 5 = .ok (.iconst 3, 1) := by decide +kernel
theorem d_Mo_inFrames_6 : decode prog_14_method_31_code 6 = .ok (.if_icmp .ge 54, 3) := by decide +kernel
theorem d_Mo_inFrames_9 : decode prog_14_method_31_code 9 = .ok (.iconst 0, 1) := by decide +kernel
theorem d_Mo_inFrames_10 : decode prog_14_method_31_code 10 = .ok (.istore 4, 2) := by decide +kernel
theorem d_Mo_inFrames_12 : decode prog_14_method_31_code 12 = .ok (.iload 4, 2) := by decide +kernel
theorem d_Mo_inFrames_14 : decode prog_14_method_31_code 14 = .ok (.aload_n 0, 1) := by decide +kernel
theorem d_Mo_inFrames_15 : decode prog_14_method_31_code 15 = .ok (.getfield 48, 3) := by decide +kernel
theorem d_Mo_inFrames_18 : decode prog_14_method_31_code 18 = .ok (.iload_n 3, 1) := by decide +kernel
theorem d_Mo_inFrames_19 : decode prog_14_method_31_code 19 = .ok (.iaload, 1) := by decide +kernel
theorem d_Mo_inFrames_20 : decode prog_14_method_31_code 20 = .ok (.if_icmp .ge 34, 3) := by decide +kernel
theorem d_Mo_inFrames_23 : decode prog_14_method_31_code 23 = .ok (.iload_n 2, 1) := by decide +kernel
theorem d_Mo_inFrames_24 : decode prog_14_method_31_code 24 = .ok (.ifCond .ne 18, 3) := by decide +kernel
theorem d_Mo_inFrames_27 : decode prog_14_method_31_code 27 = .ok (.aload_n 0, 1) := by decide +kernel
theorem d_Mo_inFrames_28 : decode prog_14_method_31_code 28 = .ok (.getfield 51, 3) := by decide +kernel
theorem d_Mo_inFrames_31 : decode prog_14_method_31_code 31 = .ok (.iconst 5, 1) := by decide +kernel
theorem d_Mo_inFrames_32 : decode prog_14_method_31_code 32 = .ok (.iload_n 3, 1) := by decide +kernel
theorem d_Mo_inFrames_33 : decode prog_14_method_31_code 33 = .ok (.imul, 1) := by decide +kernel
theorem d_Mo_inFrames_34 : decode prog_14_method_31_code 34 = .ok (.iload 4, 2) := by decide +kernel
theorem d_Mo_inFrames_36 : decode prog_14_method_31_code 36 = .ok (.iadd, 1) := by decide +kernel
theorem d_Mo_inFrames_37 : decode prog_14_method_31_code 37 = .ok (.iaload, 1) := by decide +kernel
theorem d_Mo_inFrames_38 : decode prog_14_method_31_code 38 = .ok (.iload_n 1, 1) := by decide +kernel
theorem d_Mo_inFrames_39 : decode prog_14_method_31_code 39 = .ok (.if_icmp .ne 7, 3) := by decide +kernel
theorem d_Mo_inFrames_42 : decode prog_14_method_31_code 42 = .ok (.iconst 1, 1) := by decide +kernel
theorem d_Mo_inFrames_43 : decode prog_14_method_31_code 43 = .ok (.goto 4, 3) := by decide +kernel
theorem d_Mo_inFrames_46 : decode prog_14_method_31_code 46 = .ok (.iconst 0, 1) := by decide +kernel
theorem d_Mo_inFrames_47 : decode prog_14_method_31_code 47 = .ok (.istore_n 2, 1) := by decide +kernel
theorem d_Mo_inFrames_48 : decode prog_14_method_31_code 48 = .ok (.iinc 4 1, 3) := by decide +kernel
theorem d_Mo_inFrames_51 : decode prog_14_method_31_code 51 = .ok (.goto (-39), 3) := by decide +kernel
theorem d_Mo_inFrames_54 : decode prog_14_method_31_code 54 = .ok (.iinc 3 1, 3) := by decide +kernel
theorem d_Mo_inFrames_57 : decode prog_14_method_31_code 57 = .ok (.goto (-53), 3) := by decide +kernel
theorem d_Mo_inFrames_60 : decode prog_14_method_31_code 60 = .ok (.iload_n 2, 1) := by decide +kernel
theorem d_Mo_inFrames_61 : decode prog_14_method_31_code 61 = .ok (.ireturn, 1) := by decide +kernel
theorem d_Mo_inUse_0 : decode prog_14_method_32_code 0 = .ok (.aload_n 0, 1) := by decide +kernel
theorem d_Mo_inUse_1 : decode prog_14_method_32_code 1 = .ok (.iload_n 1, 1) := by decide +kernel
theorem d_Mo_inUse_2 : decode prog_14_method_32_code 2 = .ok (.invokevirtual 128, 3) := by decide +kernel
theorem d_Mo_inUse_5 : decode prog_14_method_32_code 5 = .ok (.istore_n 2, 1) := by decide +kernel
theorem d_Mo_inUse_6 : decode prog_14_method_32_code 6 = .ok (.iconst 0, 1) := by decide +kernel
theorem d_Mo_inUse_7 : decode prog_14_method_32_code 7 = .ok (.istore_n 3, 1) := by decide +kernel
theorem d_Mo_inUse_8 : decode prog_14_method_32_code 8 = .ok (.iload_n 3, 1) := by decide +kernel
theorem d_Mo_inUse_9 : decode prog_14_method_32_code 9 = .ok (.bipush 6, 2) := by decide +kernel
theorem d_Mo_inUse_11 : decode prog_14_method_32_code 11 = .ok (.if_icmp .ge 29, 3) := by decide +kernel
theorem d_Mo_inUse_14 : decode prog_14_method_32_code 14 = .ok (.iload_n 2, 1) := by decide +kernel
theorem d_Mo_inUse_15 : decode prog_14_method_32_code 15 = .ok (.ifCond .ne 13, 3) := by decide +kernel
theorem d_Mo_inUse_18 : decode prog_14_method_32_code 18 = .ok (.aload_n 0, 1) := by decide +kernel
theorem d_Mo_inUse_19 : decode prog_14_method_32_code 19 = .ok (.getfield 17, 3) := by decide +kernel
theorem d_Mo_inUse_22 : decode prog_14_method_32_code 22 = .ok (.iload_n 3, 1) := by decide +kernel
theorem d_Mo_inUse_23 : decode prog_14_method_32_code 23 = .ok (.iaload, 1) := by decide +kernel
theorem d_Mo_inUse_24 : decode prog_14_method_32_code 24 = .ok (.iload_n 1, 1) := by decide +kernel
theorem d_Mo_inUse_25 : decode prog_14_method_32_code 25 = .ok (.if_icmp .ne 7, 3) := by decide +kernel
theorem d_Mo_inUse_28 : decode prog_14_method_32_code 28 = .ok (.iconst 1, 1) := by decide +kernel
theorem d_Mo_inUse_29 : decode prog_14_method_32_code 29 = .ok (.goto 4, 3) := by decide +kernel
theorem d_Mo_inUse_32 : decode prog_14_method_32_code 32 = .ok (.iconst 0, 1) := by decide +kernel
theorem d_Mo_inUse_33 : decode prog_14_method_32_code 33 = .ok (.istore_n 2, 1) := by decide +kernel
theorem d_Mo_inUse_34 : decode prog_14_method_32_code 34 = .ok (.iinc 3 1, 3) := by decide +kernel
theorem d_Mo_inUse_37 : decode prog_14_method_32_code 37 = .ok (.goto (-29), 3) := by decide +kernel
theorem d_Mo_inUse_40 : decode prog_14_method_32_code 40 = .ok (.iload_n 2, 1) := by decide +kernel
theorem d_Mo_inUse_41 : decode prog_14_method_32_code 41 = .ok (.ireturn, 1) := by decide +kernel
theorem d_Mo_renew_0 : decode prog_14_method_33_code 0 = .ok (.bipush 17, 2) := by decide +kernel
theorem d_Mo_renew_2 : decode prog_14_method_33_code 2 = .ok (.istore_n 3, 1) := by decide +kernel
theorem d_Mo_renew_3 : decode prog_14_method_33_code 3 = .ok (.iload_n 3, 1) := by decide +kernel
theorem d_Mo_renew_4 : decode prog_14_method_33_code 4 = .ok (.bipush 40, 2) := by decide +kernel
theorem d_Mo_renew_6 : decode prog_14_method_33_code 6 = .ok (.if_icmp .ge 17, 3) := by decide +kernel
theorem d_Mo_renew_9 : decode prog_14_method_33_code 9 = .ok (.aload_n 0, 1) := by decide +kernel
theorem d_Mo_renew_10 : decode prog_14_method_33_code 10 = .ok (.iload_n 3, 1) := by decide +kernel
theorem d_Mo_renew_11 : decode prog_14_method_33_code 11 = .ok (.invokevirtual 131, 3) := by decide +kernel
theorem d_Mo_renew_14 : decode prog_14_method_33_code 14 = .ok (.ifCond .eq 9, 3) := by decide +kernel
theorem d_Mo_renew_17 : decode prog_14_method_33_code 17 = .ok (.iinc 3 1, 3) := by decide +kernel
theorem d_Mo_renew_20 : decode prog_14_method_33_code 20 = .ok (.goto (-17), 3) := by decide +kernel
theorem d_Mo_renew_23 : decode prog_14_method_33_code 23 = .ok (.aload_n 0, 1) := by decide +kernel
theorem d_Mo_renew_24 : decode prog_14_method_33_code 24 = .ok (.iload_n 2, 1) := by decide +kernel
theorem d_Mo_renew_25 : decode prog_14_method_33_code 25 = .ok (.iload_n 3, 1) := by decide +kernel
theorem d_Mo_renew_26 : decode prog_14_method_33_code 26 = .ok (.invokevirtual 81, 3) := by decide +kernel
theorem d_Mo_renew_29 : decode prog_14_method_33_code 29 = .ok (.aload_n 0, 1) := by decide +kernel
theorem d_Mo_renew_30 : decode prog_14_method_33_code 30 = .ok (.getfield 17, 3) := by decide +kernel
theorem d_Mo_renew_33 : decode prog_14_method_33_code 33 = .ok (.iload_n 1, 1) := by decide +kernel
theorem d_Mo_renew_34 : decode prog_14_method_33_code 34 = .ok (.iload_n 3, 1) := by decide +kernel
theorem d_Mo_renew_35 : decode prog_14_method_33_code 35 = .ok (.iastore, 1) := by decide +kernel
theorem d_Mo_renew_36 : decode prog_14_method_33_code 36 = .ok (.aload_n 0, 1) := by decide +kernel
theorem d_Mo_renew_37 : decode prog_14_method_33_code 37 = .ok (.getfield 20, 3) := by decide +kernel
theorem d_Mo_renew_40 : decode prog_14_method_33_code 40 = .ok (.iload_n 1, 1) := by decide +kernel
theorem d_Mo_renew_41 : decode prog_14_method_33_code 41 = .ok (.dup2, 1) := by decide +kernel
theorem d_Mo_renew_42 : decode prog_14_method_33_code 42 = .ok (.iaload, 1) := by decide +kernel
theorem d_Mo_renew_43 : decode prog_14_method_33_code 43 = .ok (.iconst 1, 1) := by decide +kernel
theorem d_Mo_renew_44 : decode prog_14_method_33_code 44 = .ok (.iadd, 1) := by decide +kernel
theorem d_Mo_renew_45 : decode prog_14_method_33_code 45 = .ok (.iastore, 1) := by decide +kernel
theorem d_Mo_renew_46 : decode prog_14_method_33_code 46 = .ok (.aload_n 0, 1) := by decide +kernel
theorem d_Mo_renew_47 : decode prog_14_method_33_code 47 = .ok (.getfield 23, 3) := by decide +kernel
theorem d_Mo_renew_50 : decode prog_14_method_33_code 50 = .ok (.iload_n 3, 1) := by decide +kernel
theorem d_Mo_renew_51 : decode prog_14_method_33_code 51 = .ok (.aload_n 0, 1) := by decide +kernel
theorem d_Mo_renew_52 : decode prog_14_method_33_code 52 = .ok (.getfield 20, 3) := by decide +kernel
theorem d_Mo_renew_55 : decode prog_14_method_33_code 55 = .ok (.iload_n 1, 1) := by decide +kernel
theorem d_Mo_renew_56 : decode prog_14_method_33_code 56 = .ok (.iaload, 1) := by decide +kernel
theorem d_Mo_renew_57 : decode prog_14_method_33_code 57 = .ok (.iastore, 1) := by decide +kernel
theorem d_Mo_renew_58 : decode prog_14_method_33_code 58 = .ok (.aload_n 0, 1) := by decide +kernel
theorem d_Mo_renew_59 : decode prog_14_method_33_code 59 = .ok (.getfield 26, 3) := by decide +kernel
theorem d_Mo_renew_62 : decode prog_14_method_33_code 62 = .ok (.iload_n 3, 1) := by decide +kernel
theorem d_Mo_renew_63 : decode prog_14_method_33_code 63 = .ok (.iload_n 1, 1) := by decide +kernel
theorem d_Mo_renew_64 : decode prog_14_method_33_code 64 = .ok (.iastore, 1) := by decide +kernel
theorem d_Mo_renew_65 : decode prog_14_method_33_code 65 = .ok (.return_, 1) := by decide +kernel
theorem d_Mo_load_0 : decode prog_14_method_34_code 0 = .ok (.aload_n 0, 1) := by decide +kernel
theorem d_Mo_load_1 : decode prog_14_method_34_code 1 = .ok (.iconst 0, 1) := by decide +kernel
theorem d_Mo_load_2 : decode prog_14_method_34_code 2 = .ok (.bipush 16, 2) := by decide +kernel
theorem d_Mo_load_4 : decode prog_14_method_34_code 4 = .ok (.invokevirtual 81, 3) := by decide +kernel
theorem d_Mo_load_7 : decode prog_14_method_34_code 7 = .ok (.aload_n 0, 1) := by decide +kernel
theorem d_Mo_load_8 : decode prog_14_method_34_code 8 = .ok (.iconst 0, 1) := by decide +kernel
theorem d_Mo_load_9 : decode prog_14_method_34_code 9 = .ok (.iconst 1, 1) := by decide +kernel
theorem d_Mo_load_10 : decode prog_14_method_34_code 10 = .ok (.invokevirtual 69, 3) := by decide +kernel
theorem d_Mo_load_13 : decode prog_14_method_34_code 13 = .ok (.istore_n 1, 1) := by decide +kernel
theorem d_Mo_load_14 : decode prog_14_method_34_code 14 = .ok (.aload_n 0, 1) := by decide +kernel
theorem d_Mo_load_15 : decode prog_14_method_34_code 15 = .ok (.bipush 16, 2) := by decide +kernel
theorem d_Mo_load_17 : decode prog_14_method_34_code 17 = .ok (.bipush 13, 2) := by decide +kernel
theorem d_Mo_load_19 : decode prog_14_method_34_code 19 = .ok (.iload_n 1, 1) := by decide +kernel
theorem d_Mo_load_20 : decode prog_14_method_34_code 20 = .ok (.invokevirtual 134, 3) := by decide +kernel
theorem d_Mo_load_23 : decode prog_14_method_34_code 23 = .ok (.aload_n 0, 1) := by decide +kernel
theorem d_Mo_load_24 : decode prog_14_method_34_code 24 = .ok (.bipush 16, 2) := by decide +kernel
theorem d_Mo_load_26 : decode prog_14_method_34_code 26 = .ok (.invokevirtual 112, 3) := by decide +kernel
theorem d_Mo_load_29 : decode prog_14_method_34_code 29 = .ok (.istore_n 2, 1) := by decide +kernel
theorem d_Mo_load_30 : decode prog_14_method_34_code 30 = .ok (.iload_n 2, 1) := by decide +kernel
theorem d_Mo_load_31 : decode prog_14_method_34_code 31 = .ok (.ifCond .le 5, 3) := by decide +kernel
theorem d_Mo_load_34 : decode prog_14_method_34_code 34 = .ok (.iload_n 2, 1) := by decide +kernel
theorem d_Mo_load_35 : decode prog_14_method_34_code 35 = .ok (.ireturn, 1) := by decide +kernel
theorem d_Mo_load_36 : decode prog_14_method_34_code 36 = .ok (.iload_n 1, 1) := by decide +kernel
theorem d_Mo_load_37 : decode prog_14_method_34_code 37 = .ok (.ifCond .lt 8, 3) := by decide +kernel
theorem d_Mo_load_40 : decode prog_14_method_34_code 40 = .ok (.iload_n 1, 1) := by decide +kernel
theorem d_Mo_load_41 : decode prog_14_method_34_code 41 = .ok (.iconst 5, 1) := by decide +kernel
theorem d_Mo_load_42 : decode prog_14_method_34_code 42 = .ok (.if_icmp .le 5, 3) := by decide +kernel
theorem d_Mo_load_45 : decode prog_14_method_34_code 45 = .ok (.iconst 5, 1) := by decide +kernel
theorem d_Mo_load_46 : decode prog_14_method_34_code 46 = .ok (.ireturn, 1) := by decide +kernel
theorem d_Mo_load_47 : decode prog_14_method_34_code 47 = .ok (.aload_n 0, 1) := by decide +kernel
theorem d_Mo_load_48 : decode prog_14_method_34_code 48 = .ok (.iload_n 1, 1) := by decide +kernel
theorem d_Mo_load_49 : decode prog_14_method_34_code 49 = .ok (.invokevirtual 77, 3) := by decide +kernel
theorem d_Mo_load_52 : decode prog_14_method_34_code 52 = .ok (.ifCond .eq 6, 3) := by decide +kernel
theorem d_Mo_load_55 : decode prog_14_method_34_code 55 = .ok (.bipush 13, 2) := by decide +kernel
theorem d_Mo_load_57 : decode prog_14_method_34_code 57 = .ok (.ireturn, 1) := by decide +kernel
theorem d_Mo_load_58 : decode prog_14_method_34_code 58 = .ok (.aload_n 0, 1) := by decide +kernel
theorem d_Mo_load_59 : decode prog_14_method_34_code 59 = .ok (.iload_n 1, 1) := by decide +kernel
theorem d_Mo_load_60 : decode prog_14_method_34_code 60 = .ok (.bipush 16, 2) := by decide +kernel
theorem d_Mo_load_62 : decode prog_14_method_34_code 62 = .ok (.invokevirtual 137, 3) := by decide +kernel
theorem d_Mo_load_65 : decode prog_14_method_34_code 65 = .ok (.aload_n 0, 1) := by decide +kernel
theorem d_Mo_load_66 : decode prog_14_method_34_code 66 = .ok (.bipush 13, 2) := by decide +kernel
theorem d_Mo_load_68 : decode prog_14_method_34_code 68 = .ok (.iconst 1, 1) := by decide +kernel
theorem d_Mo_load_69 : decode prog_14_method_34_code 69 = .ok (.iload_n 1, 1) := by decide +kernel
theorem d_Mo_load_70 : decode prog_14_method_34_code 70 = .ok (.iadd, 1) := by decide +kernel
theorem d_Mo_load_71 : decode prog_14_method_34_code 71 = .ok (.invokevirtual 81, 3) := by decide +kernel
theorem d_Mo_load_74 : decode prog_14_method_34_code 74 = .ok (.iconst 0, 1) := by decide +kernel
theorem d_Mo_load_75 : decode prog_14_method_34_code 75 = .ok (.ireturn, 1) := by decide +kernel
theorem d_Mo_queue_0 : decode prog_14_method_35_code 0 = .ok (.aload_n 0, 1) := by decide +kernel
theorem d_Mo_queue_1 : decode prog_14_method_35_code 1 = .ok (.iload_n 1, 1) := by decide +kernel
theorem d_Mo_queue_2 : decode prog_14_method_35_code 2 = .ok (.invokevirtual 77, 3) := by decide +kernel
theorem d_Mo_queue_5 : decode prog_14_method_35_code 5 = .ok (.ifCond .eq 11, 3) := by decide +kernel
theorem d_Mo_queue_8 : decode prog_14_method_35_code 8 = .ok (.aload_n 0, 1) := by decide +kernel
theorem d_Mo_queue_9 : decode prog_14_method_35_code 9 = .ok (.getfield 140, 3) := by decide +kernel
theorem d_Mo_queue_12 : decode prog_14_method_35_code 12 = .ok (.iconst 3, 1) := by decide +kernel
theorem d_Mo_queue_13 : decode prog_14_method_35_code 13 = .ok (.if_icmp .ne 5, 3) := by decide +kernel
theorem d_Mo_queue_16 : decode prog_14_method_35_code 16 = .ok (.iconst 0, 1) := by decide +kernel
theorem d_Mo_queue_17 : decode prog_14_method_35_code 17 = .ok (.ireturn, 1) := by decide +kernel
theorem d_Mo_queue_18 : decode prog_14_method_35_code 18 = .ok (.iconst 0, 1) := by decide +kernel
theorem d_Mo_queue_19 : decode prog_14_method_35_code 19 = .ok (.istore_n 2, 1) := by decide +kernel
theorem d_Mo_queue_20 : decode prog_14_method_35_code 20 = .ok (.iload_n 2, 1) := by decide +kernel
theorem d_Mo_queue_21 : decode prog_14_method_35_code 21 = .ok (.aload_n 0, 1) := by decide +kernel
theorem d_Mo_queue_22 : decode prog_14_method_35_code 22 = .ok (.getfield 140, 3) := by decide +kernel
theorem d_Mo_queue_25 : decode prog_14_method_35_code 25 = .ok (.if_icmp .ge 21, 3) := by decide +kernel
theorem d_Mo_queue_28 : decode prog_14_method_35_code 28 = .ok (.aload_n 0, 1) := by decide +kernel
theorem d_Mo_queue_29 : decode prog_14_method_35_code 29 = .ok (.getfield 45, 3) := by decide +kernel
theorem d_Mo_queue_32 : decode prog_14_method_35_code 32 = .ok (.iload_n 2, 1) := by decide +kernel
theorem d_Mo_queue_33 : decode prog_14_method_35_code 33 = .ok (.iaload, 1) := by decide +kernel
theorem d_Mo_queue_34 : decode prog_14_method_35_code 34 = .ok (.iload_n 1, 1) := by decide +kernel
theorem d_Mo_queue_35 : decode prog_14_method_35_code 35 = .ok (.if_icmp .ne 5, 3) := by decide +kernel
theorem d_Mo_queue_38 : decode prog_14_method_35_code 38 = .ok (.iconst 0, 1) := by decide +kernel
theorem d_Mo_queue_39 : decode prog_14_method_35_code 39 = .ok (.ireturn, 1) := by decide +kernel
theorem d_Mo_queue_40 : decode prog_14_method_35_code 40 = .ok (.iinc 2 1, 3) := by decide +kernel
theorem d_Mo_queue_43 : decode prog_14_method_35_code 43 = .ok (.goto (-23), 3) := by decide +kernel
theorem d_Mo_queue_46 : decode prog_14_method_35_code 46 = .ok (.aload_n 0, 1) := by decide +kernel
theorem d_Mo_queue_47 : decode prog_14_method_35_code 47 = .ok (.iconst 0, 1) := by decide +kernel
theorem d_Mo_queue_48 : decode prog_14_method_35_code 48 = .ok (.bipush 7, 2) := by decide +kernel
theorem d_Mo_queue_50 : decode prog_14_method_35_code 50 = .ok (.aload_n 0, 1) := by decide +kernel
theorem d_Mo_queue_51 : decode prog_14_method_35_code 51 = .ok (.getfield 140, 3) := by decide +kernel
theorem d_Mo_queue_54 : decode prog_14_method_35_code 54 = .ok (.iadd, 1) := by decide +kernel
theorem d_Mo_queue_55 : decode prog_14_method_35_code 55 = .ok (.invokevirtual 81, 3) := by decide +kernel
theorem d_Mo_queue_58 : decode prog_14_method_35_code 58 = .ok (.aload_n 0, 1) := by decide +kernel
theorem d_Mo_queue_59 : decode prog_14_method_35_code 59 = .ok (.getfield 45, 3) := by decide +kernel
theorem d_Mo_queue_62 : decode prog_14_method_35_code 62 = .ok (.aload_n 0, 1) := by decide +kernel
theorem d_Mo_queue_63 : decode prog_14_method_35_code 63 = .ok (.getfield 140, 3) := by decide +kernel
theorem d_Mo_queue_66 : decode prog_14_method_35_code 66 = .ok (.iload_n 1, 1) := by decide +kernel
theorem d_Mo_queue_67 : decode prog_14_method_35_code 67 = .ok (.iastore, 1) := by decide +kernel
theorem d_Mo_queue_68 : decode prog_14_method_35_code 68 = .ok (.aload_n 0, 1) := by decide +kernel
theorem d_Mo_queue_69 : decode prog_14_method_35_code 69 = .ok (.dup, 1) := by decide +kernel
theorem d_Mo_queue_70 : decode prog_14_method_35_code 70 = .ok (.getfield 140, 3) := by decide +kernel
theorem d_Mo_queue_73 : decode prog_14_method_35_code 73 = .ok (.iconst 1, 1) := by decide +kernel
theorem d_Mo_queue_74 : decode prog_14_method_35_code 74 = .ok (.iadd, 1) := by decide +kernel
theorem d_Mo_queue_75 : decode prog_14_method_35_code 75 = .ok (.putfield 140, 3) := by decide +kernel
theorem d_Mo_queue_78 : decode prog_14_method_35_code 78 = .ok (.iconst 1, 1) := by decide +kernel
theorem d_Mo_queue_79 : decode prog_14_method_35_code 79 = .ok (.ireturn, 1) := by decide +kernel
theorem d_Mo_swap_0 : decode prog_14_method_36_code 0 = .ok (.iconst 0, 1) := by decide +kernel
theorem d_Mo_swap_1 : decode prog_14_method_36_code 1 = .ok (.istore_n 1, 1) := by decide +kernel
theorem d_Mo_swap_2 : decode prog_14_method_36_code 2 = .ok (.iconst 0, 1) := by decide +kernel
theorem d_Mo_swap_3 : decode prog_14_method_36_code 3 = .ok (.istore_n 2, 1) := by decide +kernel
theorem d_Mo_swap_4 : decode prog_14_method_36_code 4 = .ok (.iload_n 2, 1) := by decide +kernel
theorem d_Mo_swap_5 : decode prog_14_method_36_code 5 = .ok (.aload_n 0, 1) := by decide +kernel
theorem d_Mo_swap_6 : decode prog_14_method_36_code 6 = .ok (.getfield 140, 3) := by decide +kernel
theorem d_Mo_swap_9 : decode prog_14_method_36_code 9 = .ok (.if_icmp .ge 78, 3) := by decide +kernel
theorem d_Mo_swap_12 : decode prog_14_method_36_code 12 = .ok (.iload_n 1, 1) := by decide +kernel
theorem d_Mo_swap_13 : decode prog_14_method_36_code 13 = .ok (.ifCond .ne 74, 3) := by decide +kernel
theorem d_Mo_swap_16 : decode prog_14_method_36_code 16 = .ok (.aload_n 0, 1) := by decide +kernel
theorem d_Mo_swap_17 : decode prog_14_method_36_code 17 = .ok (.bipush 7, 2) := by decide +kernel
theorem d_Mo_swap_19 : decode prog_14_method_36_code 19 = .ok (.iload_n 2, 1) := by decide +kernel
theorem d_Mo_swap_20 : decode prog_14_method_36_code 20 = .ok (.iadd, 1) := by decide +kernel
theorem d_Mo_swap_21 : decode prog_14_method_36_code 21 = .ok (.bipush 10, 2) := by decide +kernel
theorem d_Mo_swap_23 : decode prog_14_method_36_code 23 = .ok (.iload_n 2, 1) := by decide +kernel
theorem d_Mo_swap_24 : decode prog_14_method_36_code 24 = .ok (.iadd, 1) := by decide +kernel
theorem d_Mo_swap_25 : decode prog_14_method_36_code 25 = .ok (.invokevirtual 81, 3) := by decide +kernel
theorem d_Mo_swap_28 : decode prog_14_method_36_code 28 = .ok (.aload_n 0, 1) := by decide +kernel
theorem d_Mo_swap_29 : decode prog_14_method_36_code 29 = .ok (.bipush 10, 2) := by decide +kernel
theorem d_Mo_swap_31 : decode prog_14_method_36_code 31 = .ok (.iload_n 2, 1) := by decide +kernel
theorem d_Mo_swap_32 : decode prog_14_method_36_code 32 = .ok (.iadd, 1) := by decide +kernel
theorem d_Mo_swap_33 : decode prog_14_method_36_code 33 = .ok (.bipush 13, 2) := by decide +kernel
theorem d_Mo_swap_35 : decode prog_14_method_36_code 35 = .ok (.iload_n 2, 1) := by decide +kernel
theorem d_Mo_swap_36 : decode prog_14_method_36_code 36 = .ok (.iadd, 1) := by decide +kernel
theorem d_Mo_swap_37 : decode prog_14_method_36_code 37 = .ok (.aload_n 0, 1) := by decide +kernel
theorem d_Mo_swap_38 : decode prog_14_method_36_code 38 = .ok (.getfield 45, 3) := by decide +kernel
theorem d_Mo_swap_41 : decode prog_14_method_36_code 41 = .ok (.iload_n 2, 1) := by decide +kernel
theorem d_Mo_swap_42 : decode prog_14_method_36_code 42 = .ok (.iaload, 1) := by decide +kernel
theorem d_Mo_swap_43 : decode prog_14_method_36_code 43 = .ok (.invokevirtual 134, 3) := by decide +kernel
theorem d_Mo_swap_46 : decode prog_14_method_36_code 46 = .ok (.aload_n 0, 1) := by decide +kernel
theorem d_Mo_swap_47 : decode prog_14_method_36_code 47 = .ok (.bipush 10, 2) := by decide +kernel
theorem d_Mo_swap_49 : decode prog_14_method_36_code 49 = .ok (.iload_n 2, 1) := by decide +kernel
theorem d_Mo_swap_50 : decode prog_14_method_36_code 50 = .ok (.iadd, 1) := by decide +kernel
theorem d_Mo_swap_51 : decode prog_14_method_36_code 51 = .ok (.aload_n 0, 1) := by decide +kernel
theorem d_Mo_swap_52 : decode prog_14_method_36_code 52 = .ok (.getfield 45, 3) := by decide +kernel
theorem d_Mo_swap_55 : decode prog_14_method_36_code 55 = .ok (.iload_n 2, 1) := by decide +kernel
theorem d_Mo_swap_56 : decode prog_14_method_36_code 56 = .ok (.iaload, 1) := by decide +kernel
theorem d_Mo_swap_57 : decode prog_14_method_36_code 57 = .ok (.invokevirtual 143, 3) := by decide +kernel
theorem d_Mo_swap_60 : decode prog_14_method_36_code 60 = .ok (.istore_n 3, 1) := by decide +kernel
theorem d_Mo_swap_61 : decode prog_14_method_36_code 61 = .ok (.iload_n 3, 1) := by decide +kernel
theorem d_Mo_swap_62 : decode prog_14_method_36_code 62 = .ok (.ifCond .le 17, 3) := by decide +kernel
theorem d_Mo_swap_65 : decode prog_14_method_36_code 65 = .ok (.bipush 16, 2) := by decide +kernel
theorem d_Mo_swap_67 : decode prog_14_method_36_code 67 = .ok (.aload_n 0, 1) := by decide +kernel
theorem d_Mo_swap_68 : decode prog_14_method_36_code 68 = .ok (.getfield 45, 3) := by decide +kernel
theorem d_Mo_swap_71 : decode prog_14_method_36_code 71 = .ok (.iload_n 2, 1) := by decide +kernel
theorem d_Mo_swap_72 : decode prog_14_method_36_code 72 = .ok (.iaload, 1) := by decide +kernel
theorem d_Mo_swap_73 : decode prog_14_method_36_code 73 = .ok (.imul, 1) := by decide +kernel
theorem d_Mo_swap_74 : decode prog_14_method_36_code 74 = .ok (.iload_n 3, 1) := by decide +kernel
theorem d_Mo_swap_75 : decode prog_14_method_36_code 75 = .ok (.iadd, 1) := by decide +kernel
theorem d_Mo_swap_76 : decode prog_14_method_36_code 76 = .ok (.goto 4, 3) := by decide +kernel
theorem d_Mo_swap_79 : decode prog_14_method_36_code 79 = .ok (.iconst 0, 1) := by decide +kernel
theorem d_Mo_swap_80 : decode prog_14_method_36_code 80 = .ok (.istore_n 1, 1) := by decide +kernel
theorem d_Mo_swap_81 : decode prog_14_method_36_code 81 = .ok (.iinc 2 1, 3) := by decide +kernel
theorem d_Mo_swap_84 : decode prog_14_method_36_code 84 = .ok (.goto (-80), 3) := by decide +kernel
theorem d_Mo_swap_87 : decode prog_14_method_36_code 87 = .ok (.iconst 0, 1) := by decide +kernel
theorem d_Mo_swap_88 : decode prog_14_method_36_code 88 = .ok (.istore_n 2, 1) := by decide +kernel
theorem d_Mo_swap_89 : decode prog_14_method_36_code 89 = .ok (.iload_n 2, 1) := by decide +kernel
theorem d_Mo_swap_90 : decode prog_14_method_36_code 90 = .ok (.aload_n 0, 1) := by decide +kernel
theorem d_Mo_swap_91 : decode prog_14_method_36_code 91 = .ok (.getfield 140, 3) := by decide +kernel
theorem d_Mo_swap_94 : decode prog_14_method_36_code 94 = .ok (.if_icmp .ge 43, 3) := by decide +kernel
theorem d_Mo_swap_97 : decode prog_14_method_36_code 97 = .ok (.iload_n 1, 1) := by decide +kernel
theorem d_Mo_swap_98 : decode prog_14_method_36_code 98 = .ok (.ifCond .ne 39, 3) := by decide +kernel
theorem d_Mo_swap_101 : decode prog_14_method_36_code 101 = .ok (.aload_n 0, 1) := by decide +kernel
theorem d_Mo_swap_102 : decode prog_14_method_36_code 102 = .ok (.aload_n 0, 1) := by decide +kernel
theorem d_Mo_swap_103 : decode prog_14_method_36_code 103 = .ok (.getfield 45, 3) := by decide +kernel
theorem d_Mo_swap_106 : decode prog_14_method_36_code 106 = .ok (.iload_n 2, 1) := by decide +kernel
theorem d_Mo_swap_107 : decode prog_14_method_36_code 107 = .ok (.iaload, 1) := by decide +kernel
theorem d_Mo_swap_108 : decode prog_14_method_36_code 108 = .ok (.bipush 10, 2) := by decide +kernel
theorem d_Mo_swap_110 : decode prog_14_method_36_code 110 = .ok (.iload_n 2, 1) := by decide +kernel
theorem d_Mo_swap_111 : decode prog_14_method_36_code 111 = .ok (.iadd, 1) := by decide +kernel
theorem d_Mo_swap_112 : decode prog_14_method_36_code 112 = .ok (.invokevirtual 137, 3) := by decide +kernel
theorem d_Mo_swap_115 : decode prog_14_method_36_code 115 = .ok (.aload_n 0, 1) := by decide +kernel
theorem d_Mo_swap_116 : decode prog_14_method_36_code 116 = .ok (.bipush 13, 2) := by decide +kernel
theorem d_Mo_swap_118 : decode prog_14_method_36_code 118 = .ok (.iload_n 2, 1) := by decide +kernel
theorem d_Mo_swap_119 : decode prog_14_method_36_code 119 = .ok (.iadd, 1) := by decide +kernel
theorem d_Mo_swap_120 : decode prog_14_method_36_code 120 = .ok (.iconst 1, 1) := by decide +kernel
theorem d_Mo_swap_121 : decode prog_14_method_36_code 121 = .ok (.aload_n 0, 1) := by decide +kernel
theorem d_Mo_swap_122 : decode prog_14_method_36_code 122 = .ok (.getfield 45, 3) := by decide +kernel
theorem d_Mo_swap_125 : decode prog_14_method_36_code 125 = .ok (.iload_n 2, 1) := by decide +kernel
theorem d_Mo_swap_126 : decode prog_14_method_36_code 126 = .ok (.iaload, 1) := by decide +kernel
theorem d_Mo_swap_127 : decode prog_14_method_36_code 127 = .ok (.iadd, 1) := by decide +kernel
theorem d_Mo_swap_128 : decode prog_14_method_36_code 128 = .ok (.invokevirtual 81, 3) := by decide +kernel
theorem d_Mo_swap_131 : decode prog_14_method_36_code 131 = .ok (.iinc 2 1, 3) := by decide +kernel
theorem d_Mo_swap_134 : decode prog_14_method_36_code 134 = .ok (.goto (-45), 3) := by decide +kernel
theorem d_Mo_swap_137 : decode prog_14_method_36_code 137 = .ok (.aload_n 0, 1) := by decide +kernel
theorem d_Mo_swap_138 : decode prog_14_method_36_code 138 = .ok (.iconst 0, 1) := by decide +kernel
theorem d_Mo_swap_139 : decode prog_14_method_36_code 139 = .ok (.putfield 140, 3) := by decide +kernel
theorem d_Mo_swap_142 : decode prog_14_method_36_code 142 = .ok (.iload_n 1, 1) := by decide +kernel
theorem d_Mo_swap_143 : decode prog_14_method_36_code 143 = .ok (.ireturn, 1) := by decide +kernel
theorem d_Mo_repeat_0 : decode prog_14_method_37_code 0 = .ok (.aload_n 0, 1) := by decide +kernel
theorem d_Mo_repeat_1 : decode prog_14_method_37_code 1 = .ok (.iload_n 1, 1) := by decide +kernel
theorem d_Mo_repeat_2 : decode prog_14_method_37_code 2 = .ok (.invokevirtual 77, 3) := by decide +kernel
theorem d_Mo_repeat_5 : decode prog_14_method_37_code 5 = .ok (.ifCond .ne 5, 3) := by decide +kernel
theorem d_Mo_repeat_8 : decode prog_14_method_37_code 8 = .ok (.iconst (-1), 1) := by decide +kernel
theorem d_Mo_repeat_9 : decode prog_14_method_37_code 9 = .ok (.ireturn, 1) := by decide +kernel
theorem d_Mo_repeat_10 : decode prog_14_method_37_code 10 = .ok (.aload_n 0, 1) := by decide +kernel
theorem d_Mo_repeat_11 : decode prog_14_method_37_code 11 = .ok (.iconst 1, 1) := by decide +kernel
theorem d_Mo_repeat_12 : decode prog_14_method_37_code 12 = .ok (.iload_n 1, 1) := by decide +kernel
theorem d_Mo_repeat_13 : decode prog_14_method_37_code 13 = .ok (.iadd, 1) := by decide +kernel
theorem d_Mo_repeat_14 : decode prog_14_method_37_code 14 = .ok (.bipush 16, 2) := by decide +kernel
theorem d_Mo_repeat_16 : decode prog_14_method_37_code 16 = .ok (.invokevirtual 81, 3) := by decide +kernel
theorem d_Mo_repeat_19 : decode prog_14_method_37_code 19 = .ok (.aload_n 0, 1) := by decide +kernel
theorem d_Mo_repeat_20 : decode prog_14_method_37_code 20 = .ok (.bipush 16, 2) := by decide +kernel
theorem d_Mo_repeat_22 : decode prog_14_method_37_code 22 = .ok (.iload_n 1, 1) := by decide +kernel
theorem d_Mo_repeat_23 : decode prog_14_method_37_code 23 = .ok (.iconst 1, 1) := by decide +kernel
theorem d_Mo_repeat_24 : decode prog_14_method_37_code 24 = .ok (.invokevirtual 95, 3) := by decide +kernel
theorem d_Mo_repeat_27 : decode prog_14_method_37_code 27 = .ok (.aload_n 0, 1) := by decide +kernel
theorem d_Mo_repeat_28 : decode prog_14_method_37_code 28 = .ok (.bipush 16, 2) := by decide +kernel
theorem d_Mo_repeat_30 : decode prog_14_method_37_code 30 = .ok (.iload_n 1, 1) := by decide +kernel
theorem d_Mo_repeat_31 : decode prog_14_method_37_code 31 = .ok (.invokevirtual 143, 3) := by decide +kernel
theorem d_Mo_repeat_34 : decode prog_14_method_37_code 34 = .ok (.istore_n 2, 1) := by decide +kernel
theorem d_Mo_repeat_35 : decode prog_14_method_37_code 35 = .ok (.iload_n 2, 1) := by decide +kernel
theorem d_Mo_repeat_36 : decode prog_14_method_37_code 36 = .ok (.ifCond .ne 10, 3) := by decide +kernel
theorem d_Mo_repeat_39 : decode prog_14_method_37_code 39 = .ok (.aload_n 0, 1) := by decide +kernel
theorem d_Mo_repeat_40 : decode prog_14_method_37_code 40 = .ok (.iload_n 1, 1) := by decide +kernel
theorem d_Mo_repeat_41 : decode prog_14_method_37_code 41 = .ok (.bipush 16, 2) := by decide +kernel
theorem d_Mo_repeat_43 : decode prog_14_method_37_code 43 = .ok (.invokevirtual 137, 3) := by decide +kernel
theorem d_Mo_repeat_46 : decode prog_14_method_37_code 46 = .ok (.iload_n 2, 1) := by decide +kernel
theorem d_Mo_repeat_47 : decode prog_14_method_37_code 47 = .ok (.ireturn, 1) := by decide +kernel
theorem d_Mo_push_0 : decode prog_14_method_38_code 0 = .ok (.iconst 5, 1) := by decide +kernel
theorem d_Mo_push_1 : decode prog_14_method_38_code 1 = .ok (.iload_n 1, 1) := by decide +kernel
theorem d_Mo_push_2 : decode prog_14_method_38_code 2 = .ok (.imul, 1) := by decide +kernel
theorem d_Mo_push_3 : decode prog_14_method_38_code 3 = .ok (.aload_n 0, 1) := by decide +kernel
theorem d_Mo_push_4 : decode prog_14_method_38_code 4 = .ok (.getfield 48, 3) := by decide +kernel
theorem d_Mo_push_7 : decode prog_14_method_38_code 7 = .ok (.iload_n 1, 1) := by decide +kernel
theorem d_Mo_push_8 : decode prog_14_method_38_code 8 = .ok (.iaload, 1) := by decide +kernel
theorem d_Mo_push_9 : decode prog_14_method_38_code 9 = .ok (.iadd, 1) := by decide +kernel
theorem d_Mo_push_10 : decode prog_14_method_38_code 10 = .ok (.istore 4, 2) := by decide +kernel
theorem d_Mo_push_12 : decode prog_14_method_38_code 12 = .ok (.aload_n 0, 1) := by decide +kernel
theorem d_Mo_push_13 : decode prog_14_method_38_code 13 = .ok (.getfield 51, 3) := by decide +kernel
theorem d_Mo_push_16 : decode prog_14_method_38_code 16 = .ok (.iload 4, 2) := by decide +kernel
theorem d_Mo_push_18 : decode prog_14_method_38_code 18 = .ok (.aload_n 0, 1) := by decide +kernel
theorem d_Mo_push_19 : decode prog_14_method_38_code 19 = .ok (.getfield 17, 3) := by decide +kernel
theorem d_Mo_push_22 : decode prog_14_method_38_code 22 = .ok (.iload_n 2, 1) := by decide +kernel
theorem d_Mo_push_23 : decode prog_14_method_38_code 23 = .ok (.iaload, 1) := by decide +kernel
theorem d_Mo_push_24 : decode prog_14_method_38_code 24 = .ok (.iastore, 1) := by decide +kernel
theorem d_Mo_push_25 : decode prog_14_method_38_code 25 = .ok (.aload_n 0, 1) := by decide +kernel
theorem d_Mo_push_26 : decode prog_14_method_38_code 26 = .ok (.getfield 54, 3) := by decide +kernel
theorem d_Mo_push_29 : decode prog_14_method_38_code 29 = .ok (.iload 4, 2) := by decide +kernel
theorem d_Mo_push_31 : decode prog_14_method_38_code 31 = .ok (.aload_n 0, 1) := by decide +kernel
theorem d_Mo_push_32 : decode prog_14_method_38_code 32 = .ok (.aload_n 0, 1) := by decide +kernel
theorem d_Mo_push_33 : decode prog_14_method_38_code 33 = .ok (.getfield 17, 3) := by decide +kernel
theorem d_Mo_push_36 : decode prog_14_method_38_code 36 = .ok (.iload_n 2, 1) := by decide +kernel
theorem d_Mo_push_37 : decode prog_14_method_38_code 37 = .ok (.iaload, 1) := by decide +kernel
theorem d_Mo_push_38 : decode prog_14_method_38_code 38 = .ok (.iload_n 3, 1) := by decide +kernel
theorem d_Mo_push_39 : decode prog_14_method_38_code 39 = .ok (.invokevirtual 89, 3) := by decide +kernel
theorem d_Mo_push_42 : decode prog_14_method_38_code 42 = .ok (.iastore, 1) := by decide +kernel
theorem d_Mo_push_43 : decode prog_14_method_38_code 43 = .ok (.aload_n 0, 1) := by decide +kernel
theorem d_Mo_push_44 : decode prog_14_method_38_code 44 = .ok (.getfield 57, 3) := by decide +kernel
theorem d_Mo_push_47 : decode prog_14_method_38_code 47 = .ok (.iload 4, 2) := by decide +kernel
theorem d_Mo_push_49 : decode prog_14_method_38_code 49 = .ok (.iconst 0, 1) := by decide +kernel
theorem d_Mo_push_50 : decode prog_14_method_38_code 50 = .ok (.iastore, 1) := by decide +kernel
theorem d_Mo_push_51 : decode prog_14_method_38_code 51 = .ok (.aload_n 0, 1) := by decide +kernel
theorem d_Mo_push_52 : decode prog_14_method_38_code 52 = .ok (.getfield 60, 3) := by decide +kernel
theorem d_Mo_push_55 : decode prog_14_method_38_code 55 = .ok (.iload 4, 2) := by decide +kernel
theorem d_Mo_push_57 : decode prog_14_method_38_code 57 = .ok (.iconst 0, 1) := by decide +kernel
theorem d_Mo_push_58 : decode prog_14_method_38_code 58 = .ok (.iastore, 1) := by decide +kernel
theorem d_Mo_push_59 : decode prog_14_method_38_code 59 = .ok (.aload_n 0, 1) := by decide +kernel
theorem d_Mo_push_60 : decode prog_14_method_38_code 60 = .ok (.getfield 48, 3) := by decide +kernel
theorem d_Mo_push_63 : decode prog_14_method_38_code 63 = .ok (.iload_n 1, 1) := by decide +kernel
theorem d_Mo_push_64 : decode prog_14_method_38_code 64 = .ok (.dup2, 1) := by decide +kernel
theorem d_Mo_push_65 : decode prog_14_method_38_code 65 = .ok (.iaload, 1) := by decide +kernel
theorem d_Mo_push_66 : decode prog_14_method_38_code 66 = .ok (.iconst 1, 1) := by decide +kernel
theorem d_Mo_push_67 : decode prog_14_method_38_code 67 = .ok (.iadd, 1) := by decide +kernel
theorem d_Mo_push_68 : decode prog_14_method_38_code 68 = .ok (.iastore, 1) := by decide +kernel
theorem d_Mo_push_69 : decode prog_14_method_38_code 69 = .ok (.return_, 1) := by decide +kernel
theorem d_Mo_isThread_0 : decode prog_14_method_39_code 0 = .ok (.iload_n 0, 1) := by decide +kernel
theorem d_Mo_isThread_1 : decode prog_14_method_39_code 1 = .ok (.ifCond .lt 12, 3) := by decide +kernel
theorem d_Mo_isThread_4 : decode prog_14_method_39_code 4 = .ok (.iload_n 0, 1) := by decide +kernel
theorem d_Mo_isThread_5 : decode prog_14_method_39_code 5 = .ok (.iconst 2, 1) := by decide +kernel
theorem d_Mo_isThread_6 : decode prog_14_method_39_code 6 = .ok (.if_icmp .gt 7, 3) := by decide +kernel
theorem d_Mo_isThread_9 : decode prog_14_method_39_code 9 = .ok (.iconst 1, 1) := by decide +kernel
theorem d_Mo_isThread_10 : decode prog_14_method_39_code 10 = .ok (.goto 4, 3) := by decide +kernel
theorem d_Mo_isThread_13 : decode prog_14_method_39_code 13 = .ok (.iconst 0, 1) := by decide +kernel
theorem d_Mo_isThread_14 : decode prog_14_method_39_code 14 = .ok (.ireturn, 1) := by decide +kernel
theorem d_Mo_start_0 : decode prog_14_method_40_code 0 = .ok (.iload_n 1, 1) := by decide +kernel
theorem d_Mo_start_1 : decode prog_14_method_40_code 1 = .ok (.invokestatic 146, 3) := by decide +kernel
theorem d_Mo_start_4 : decode prog_14_method_40_code 4 = .ok (.ifCond .eq 35, 3) := by decide +kernel
theorem d_Mo_start_7 : decode prog_14_method_40_code 7 = .ok (.aload_n 0, 1) := by decide +kernel
theorem d_Mo_start_8 : decode prog_14_method_40_code 8 = .ok (.getfield 48, 3) := by decide +kernel
theorem d_Mo_start_11 : decode prog_14_method_40_code 11 = .ok (.iload_n 1, 1) := by decide +kernel
theorem d_Mo_start_12 : decode prog_14_method_40_code 12 = .ok (.iaload, 1) := by decide +kernel
theorem d_Mo_start_13 : decode prog_14_method_40_code 13 = .ok (.ifCond .gt 26, 3) := by decide +kernel
theorem d_Mo_start_16 : decode prog_14_method_40_code 16 = .ok (.aload_n 0, 1) := by decide +kernel
theorem d_Mo_start_17 : decode prog_14_method_40_code 17 = .ok (.iload_n 2, 1) := by decide +kernel
theorem d_Mo_start_18 : decode prog_14_method_40_code 18 = .ok (.invokevirtual 77, 3) := by decide +kernel
theorem d_Mo_start_21 : decode prog_14_method_40_code 21 = .ok (.ifCond .eq 18, 3) := by decide +kernel
theorem d_Mo_start_24 : decode prog_14_method_40_code 24 = .ok (.aload_n 0, 1) := by decide +kernel
theorem d_Mo_start_25 : decode prog_14_method_40_code 25 = .ok (.aload_n 0, 1) := by decide +kernel
theorem d_Mo_start_26 : decode prog_14_method_40_code 26 = .ok (.getfield 17, 3) := by decide +kernel
theorem d_Mo_start_29 : decode prog_14_method_40_code 29 = .ok (.iload_n 2, 1) := by decide +kernel
theorem d_Mo_start_30 : decode prog_14_method_40_code 30 = .ok (.iaload, 1) := by decide +kernel
theorem d_Mo_start_31 : decode prog_14_method_40_code 31 = .ok (.iload_n 3, 1) := by decide +kernel
theorem d_Mo_start_32 : decode prog_14_method_40_code 32 = .ok (.invokevirtual 89, 3) := by decide +kernel
theorem d_Mo_start_35 : decode prog_14_method_40_code 35 = .ok (.iconst (-1), 1) := by decide +kernel
theorem d_Mo_start_36 : decode prog_14_method_40_code 36 = .ok (.if_icmp .ne 5, 3) := by decide +kernel
theorem d_Mo_start_39 : decode prog_14_method_40_code 39 = .ok (.iconst 0, 1) := by decide +kernel
theorem d_Mo_start_40 : decode prog_14_method_40_code 40 = .ok (.ireturn, 1) := by decide +kernel
theorem d_Mo_start_41 : decode prog_14_method_40_code 41 = .ok (.aload_n 0, 1) := by decide +kernel
theorem d_Mo_start_42 : decode prog_14_method_40_code 42 = .ok (.iload_n 1, 1) := by decide +kernel
theorem d_Mo_start_43 : decode prog_14_method_40_code 43 = .ok (.iload_n 2, 1) := by decide +kernel
theorem d_Mo_start_44 : decode prog_14_method_40_code 44 = .ok (.iload_n 3, 1) := by decide +kernel
theorem d_Mo_start_45 : decode prog_14_method_40_code 45 = .ok (.invokevirtual 149, 3) := by decide +kernel
theorem d_Mo_start_48 : decode prog_14_method_40_code 48 = .ok (.iconst 1, 1) := by decide +kernel
theorem d_Mo_start_49 : decode prog_14_method_40_code 49 = .ok (.ireturn, 1) := by decide +kernel
theorem d_Mo_once_0 : decode prog_14_method_41_code 0 = .ok (.iconst 5, 1) := by decide +kernel
theorem d_Mo_once_1 : decode prog_14_method_41_code 1 = .ok (.iload_n 1, 1) := by decide +kernel
theorem d_Mo_once_2 : decode prog_14_method_41_code 2 = .ok (.imul, 1) := by decide +kernel
theorem d_Mo_once_3 : decode prog_14_method_41_code 3 = .ok (.aload_n 0, 1) := by decide +kernel
theorem d_Mo_once_4 : decode prog_14_method_41_code 4 = .ok (.getfield 48, 3) := by decide +kernel
theorem d_Mo_once_7 : decode prog_14_method_41_code 7 = .ok (.iload_n 1, 1) := by decide +kernel
theorem d_Mo_once_8 : decode prog_14_method_41_code 8 = .ok (.iaload, 1) := by decide +kernel
theorem d_Mo_once_9 : decode prog_14_method_41_code 9 = .ok (.iadd, 1) := by decide +kernel
theorem d_Mo_once_10 : decode prog_14_method_41_code 10 = .ok (.iconst 1, 1) := by decide +kernel
theorem d_Mo_once_11 : decode prog_14_method_41_code 11 = .ok (.isub, 1) := by decide +kernel
theorem d_Mo_once_12 : decode prog_14_method_41_code 12 = .ok (.istore_n 2, 1) := by decide +kernel
theorem d_Mo_once_13 : decode prog_14_method_41_code 13 = .ok (.aload_n 0, 1) := by decide +kernel
theorem d_Mo_once_14 : decode prog_14_method_41_code 14 = .ok (.getfield 54, 3) := by decide +kernel
theorem d_Mo_once_17 : decode prog_14_method_41_code 17 = .ok (.iload_n 2, 1) := by decide +kernel
theorem d_Mo_once_18 : decode prog_14_method_41_code 18 = .ok (.iaload, 1) := by decide +kernel
theorem d_Mo_once_19 : decode prog_14_method_41_code 19 = .ok (.iconst 2, 1) := by decide +kernel
theorem d_Mo_once_20 : decode prog_14_method_41_code 20 = .ok (.iadd, 1) := by decide +kernel
theorem d_Mo_once_21 : decode prog_14_method_41_code 21 = .ok (.istore_n 3, 1) := by decide +kernel
theorem d_Mo_once_22 : decode prog_14_method_41_code 22 = .ok (.aload_n 0, 1) := by decide +kernel
theorem d_Mo_once_23 : decode prog_14_method_41_code 23 = .ok (.getfield 57, 3) := by decide +kernel
theorem d_Mo_once_26 : decode prog_14_method_41_code 26 = .ok (.iload_n 2, 1) := by decide +kernel
theorem d_Mo_once_27 : decode prog_14_method_41_code 27 = .ok (.iaload, 1) := by decide +kernel
theorem d_Mo_once_28 : decode prog_14_method_41_code 28 = .ok (.aload_n 0, 1) := by decide +kernel
theorem d_Mo_once_29 : decode prog_14_method_41_code 29 = .ok (.aload_n 0, 1) := by decide +kernel
theorem d_Mo_once_30 : decode prog_14_method_41_code 30 = .ok (.getfield 51, 3) := by decide +kernel
theorem d_Mo_once_33 : decode prog_14_method_41_code 33 = .ok (.iload_n 2, 1) := by decide +kernel
theorem d_Mo_once_34 : decode prog_14_method_41_code 34 = .ok (.iaload, 1) := by decide +kernel
theorem d_Mo_once_35 : decode prog_14_method_41_code 35 = .ok (.iload_n 3, 1) := by decide +kernel
theorem d_Mo_once_36 : decode prog_14_method_41_code 36 = .ok (.invokevirtual 69, 3) := by decide +kernel
theorem d_Mo_once_39 : decode prog_14_method_41_code 39 = .ok (.if_icmp .lt 55, 3) := by decide +kernel
theorem d_Mo_once_42 : decode prog_14_method_41_code 42 = .ok (.aload_n 0, 1) := by decide +kernel
theorem d_Mo_once_43 : decode prog_14_method_41_code 43 = .ok (.getfield 48, 3) := by decide +kernel
theorem d_Mo_once_46 : decode prog_14_method_41_code 46 = .ok (.iload_n 1, 1) := by decide +kernel
theorem d_Mo_once_47 : decode prog_14_method_41_code 47 = .ok (.dup2, 1) := by decide +kernel
theorem d_Mo_once_48 : decode prog_14_method_41_code 48 = .ok (.iaload, 1) := by decide +kernel
theorem d_Mo_once_49 : decode prog_14_method_41_code 49 = .ok (.iconst 1, 1) := by decide +kernel
theorem d_Mo_once_50 : decode prog_14_method_41_code 50 = .ok (.isub, 1) := by decide +kernel
theorem d_Mo_once_51 : decode prog_14_method_41_code 51 = .ok (.iastore, 1) := by decide +kernel
theorem d_Mo_once_52 : decode prog_14_method_41_code 52 = .ok (.aload_n 0, 1) := by decide +kernel
theorem d_Mo_once_53 : decode prog_14_method_41_code 53 = .ok (.getfield 48, 3) := by decide +kernel
theorem d_Mo_once_56 : decode prog_14_method_41_code 56 = .ok (.iload_n 1, 1) := by decide +kernel
theorem d_Mo_once_57 : decode prog_14_method_41_code 57 = .ok (.iaload, 1) := by decide +kernel
theorem d_Mo_once_58 : decode prog_14_method_41_code 58 = .ok (.ifCond .ne 18, 3) := by decide +kernel
theorem d_Mo_once_61 : decode prog_14_method_41_code 61 = .ok (.aload_n 0, 1) := by decide +kernel
theorem d_Mo_once_62 : decode prog_14_method_41_code 62 = .ok (.getfield 63, 3) := by decide +kernel
theorem d_Mo_once_65 : decode prog_14_method_41_code 65 = .ok (.iload_n 1, 1) := by decide +kernel
theorem d_Mo_once_66 : decode prog_14_method_41_code 66 = .ok (.aload_n 0, 1) := by decide +kernel
theorem d_Mo_once_67 : decode prog_14_method_41_code 67 = .ok (.getfield 60, 3) := by decide +kernel
theorem d_Mo_once_70 : decode prog_14_method_41_code 70 = .ok (.iload_n 2, 1) := by decide +kernel
theorem d_Mo_once_71 : decode prog_14_method_41_code 71 = .ok (.iaload, 1) := by decide +kernel
theorem d_Mo_once_72 : decode prog_14_method_41_code 72 = .ok (.iastore, 1) := by decide +kernel
theorem d_Mo_once_73 : decode prog_14_method_41_code 73 = .ok (.goto 20, 3) := by decide +kernel
theorem d_Mo_once_76 : decode prog_14_method_41_code 76 = .ok (.aload_n 0, 1) := by decide +kernel
theorem d_Mo_once_77 : decode prog_14_method_41_code 77 = .ok (.getfield 60, 3) := by decide +kernel
theorem d_Mo_once_80 : decode prog_14_method_41_code 80 = .ok (.iload_n 2, 1) := by decide +kernel
theorem d_Mo_once_81 : decode prog_14_method_41_code 81 = .ok (.iconst 1, 1) := by decide +kernel
theorem d_Mo_once_82 : decode prog_14_method_41_code 82 = .ok (.isub, 1) := by decide +kernel
theorem d_Mo_once_83 : decode prog_14_method_41_code 83 = .ok (.dup2, 1) := by decide +kernel
theorem d_Mo_once_84 : decode prog_14_method_41_code 84 = .ok (.iaload, 1) := by decide +kernel
theorem d_Mo_once_85 : decode prog_14_method_41_code 85 = .ok (.aload_n 0, 1) := by decide +kernel
theorem d_Mo_once_86 : decode prog_14_method_41_code 86 = .ok (.getfield 60, 3) := by decide +kernel
theorem d_Mo_once_89 : decode prog_14_method_41_code 89 = .ok (.iload_n 2, 1) := by decide +kernel
theorem d_Mo_once_90 : decode prog_14_method_41_code 90 = .ok (.iaload, 1) := by decide +kernel
theorem d_Mo_once_91 : decode prog_14_method_41_code 91 = .ok (.iadd, 1) := by decide +kernel
theorem d_Mo_once_92 : decode prog_14_method_41_code 92 = .ok (.iastore, 1) := by decide +kernel
theorem d_Mo_once_93 : decode prog_14_method_41_code 93 = .ok (.return_, 1) := by decide +kernel
theorem d_Mo_once_94 : decode prog_14_method_41_code 94 = .ok (.iload_n 3, 1) := by decide +kernel
theorem d_Mo_once_95 : decode prog_14_method_41_code 95 = .ok (.iconst 1, 1) := by decide +kernel
theorem d_Mo_once_96 : decode prog_14_method_41_code 96 = .ok (.iadd, 1) := by decide +kernel
theorem d_Mo_once_97 : decode prog_14_method_41_code 97 = .ok (.iconst 3, 1) := by decide +kernel
theorem d_Mo_once_98 : decode prog_14_method_41_code 98 = .ok (.aload_n 0, 1) := by decide +kernel
theorem d_Mo_once_99 : decode prog_14_method_41_code 99 = .ok (.getfield 57, 3) := by decide +kernel
theorem d_Mo_once_102 : decode prog_14_method_41_code 102 = .ok (.iload_n 2, 1) := by decide +kernel
theorem d_Mo_once_103 : decode prog_14_method_41_code 103 = .ok (.iaload, 1) := by decide +kernel
theorem d_Mo_once_104 : decode prog_14_method_41_code 104 = .ok (.imul, 1) := by decide +kernel
theorem d_Mo_once_105 : decode prog_14_method_41_code 105 = .ok (.iadd, 1) := by decide +kernel
theorem d_Mo_once_106 : decode prog_14_method_41_code 106 = .ok (.istore 4, 2) := by decide +kernel
theorem d_Mo_once_108 : decode prog_14_method_41_code 108 = .ok (.aload_n 0, 1) := by decide +kernel
theorem d_Mo_once_109 : decode prog_14_method_41_code 109 = .ok (.aload_n 0, 1) := by decide +kernel
theorem d_Mo_once_110 : decode prog_14_method_41_code 110 = .ok (.getfield 51, 3) := by decide +kernel
theorem d_Mo_once_113 : decode prog_14_method_41_code 113 = .ok (.iload_n 2, 1) := by decide +kernel
theorem d_Mo_once_114 : decode prog_14_method_41_code 114 = .ok (.iaload, 1) := by decide +kernel
theorem d_Mo_once_115 : decode prog_14_method_41_code 115 = .ok (.iload 4, 2) := by decide +kernel
theorem d_Mo_once_117 : decode prog_14_method_41_code 117 = .ok (.invokevirtual 69, 3) := by decide +kernel
theorem d_Mo_once_120 : decode prog_14_method_41_code 120 = .ok (.istore 5, 2) := by decide +kernel
theorem d_Mo_once_122 : decode prog_14_method_41_code 122 = .ok (.aload_n 0, 1) := by decide +kernel
theorem d_Mo_once_123 : decode prog_14_method_41_code 123 = .ok (.aload_n 0, 1) := by decide +kernel
theorem d_Mo_once_124 : decode prog_14_method_41_code 124 = .ok (.getfield 51, 3) := by decide +kernel
theorem d_Mo_once_127 : decode prog_14_method_41_code 127 = .ok (.iload_n 2, 1) := by decide +kernel
theorem d_Mo_once_128 : decode prog_14_method_41_code 128 = .ok (.iaload, 1) := by decide +kernel
theorem d_Mo_once_129 : decode prog_14_method_41_code 129 = .ok (.iload 4, 2) := by decide +kernel
theorem d_Mo_once_131 : decode prog_14_method_41_code 131 = .ok (.iconst 1, 1) := by decide +kernel
theorem d_Mo_once_132 : decode prog_14_method_41_code 132 = .ok (.iadd, 1) := by decide +kernel
theorem d_Mo_once_133 : decode prog_14_method_41_code 133 = .ok (.invokevirtual 69, 3) := by decide +kernel
theorem d_Mo_once_136 : decode prog_14_method_41_code 136 = .ok (.istore 6, 2) := by decide +kernel
theorem d_Mo_once_138 : decode prog_14_method_41_code 138 = .ok (.aload_n 0, 1) := by decide +kernel
theorem d_Mo_once_139 : decode prog_14_method_41_code 139 = .ok (.aload_n 0, 1) := by decide +kernel
theorem d_Mo_once_140 : decode prog_14_method_41_code 140 = .ok (.getfield 51, 3) := by decide +kernel
theorem d_Mo_once_143 : decode prog_14_method_41_code 143 = .ok (.iload_n 2, 1) := by decide +kernel
theorem d_Mo_once_144 : decode prog_14_method_41_code 144 = .ok (.iaload, 1) := by decide +kernel
theorem d_Mo_once_145 : decode prog_14_method_41_code 145 = .ok (.iload 4, 2) := by decide +kernel
theorem d_Mo_once_147 : decode prog_14_method_41_code 147 = .ok (.iconst 2, 1) := by decide +kernel
theorem d_Mo_once_148 : decode prog_14_method_41_code 148 = .ok (.iadd, 1) := by decide +kernel
theorem d_Mo_once_149 : decode prog_14_method_41_code 149 = .ok (.invokevirtual 69, 3) := by decide +kernel
theorem d_Mo_once_152 : decode prog_14_method_41_code 152 = .ok (.istore 7, 2) := by decide +kernel
theorem d_Mo_once_154 : decode prog_14_method_41_code 154 = .ok (.aload_n 0, 1) := by decide +kernel
theorem d_Mo_once_155 : decode prog_14_method_41_code 155 = .ok (.getfield 57, 3) := by decide +kernel
theorem d_Mo_once_158 : decode prog_14_method_41_code 158 = .ok (.iload_n 2, 1) := by decide +kernel
theorem d_Mo_once_159 : decode prog_14_method_41_code 159 = .ok (.dup2, 1) := by decide +kernel
theorem d_Mo_once_160 : decode prog_14_method_41_code 160 = .ok (.iaload, 1) := by decide +kernel
theorem d_Mo_once_161 : decode prog_14_method_41_code 161 = .ok (.iconst 1, 1) := by decide +kernel
theorem d_Mo_once_162 : decode prog_14_method_41_code 162 = .ok (.iadd, 1) := by decide +kernel
theorem d_Mo_once_163 : decode prog_14_method_41_code 163 = .ok (.iastore, 1) := by decide +kernel
theorem d_Mo_once_164 : decode prog_14_method_41_code 164 = .ok (.iload 5, 2) := by decide +kernel
theorem d_Mo_once_166 : decode prog_14_method_41_code 166 = .ok (.ifCond .ne 17, 3) := by decide +kernel
theorem d_Mo_once_169 : decode prog_14_method_41_code 169 = .ok (.aload_n 0, 1) := by decide +kernel
theorem d_Mo_once_170 : decode prog_14_method_41_code 170 = .ok (.getfield 60, 3) := by decide +kernel
theorem d_Mo_once_173 : decode prog_14_method_41_code 173 = .ok (.iload_n 2, 1) := by decide +kernel
theorem d_Mo_once_174 : decode prog_14_method_41_code 174 = .ok (.dup2, 1) := by decide +kernel
theorem d_Mo_once_175 : decode prog_14_method_41_code 175 = .ok (.iaload, 1) := by decide +kernel
theorem d_Mo_once_176 : decode prog_14_method_41_code 176 = .ok (.iload 6, 2) := by decide +kernel
theorem d_Mo_once_178 : decode prog_14_method_41_code 178 = .ok (.iadd, 1) := by decide +kernel
theorem d_Mo_once_179 : decode prog_14_method_41_code 179 = .ok (.iastore, 1) := by decide +kernel
theorem d_Mo_once_180 : decode prog_14_method_41_code 180 = .ok (.goto 22, 3) := by decide +kernel
theorem d_Mo_once_183 : decode prog_14_method_41_code 183 = .ok (.aload_n 0, 1) := by decide +kernel
theorem d_Mo_once_184 : decode prog_14_method_41_code 184 = .ok (.getfield 48, 3) := by decide +kernel
theorem d_Mo_once_187 : decode prog_14_method_41_code 187 = .ok (.iload_n 1, 1) := by decide +kernel
theorem d_Mo_once_188 : decode prog_14_method_41_code 188 = .ok (.iaload, 1) := by decide +kernel
theorem d_Mo_once_189 : decode prog_14_method_41_code 189 = .ok (.iconst 5, 1) := by decide +kernel
theorem d_Mo_once_190 : decode prog_14_method_41_code 190 = .ok (.if_icmp .ge 12, 3) := by decide +kernel
theorem d_Mo_once_193 : decode prog_14_method_41_code 193 = .ok (.aload_n 0, 1) := by decide +kernel
theorem d_Mo_once_194 : decode prog_14_method_41_code 194 = .ok (.iload_n 1, 1) := by decide +kernel
theorem d_Mo_once_195 : decode prog_14_method_41_code 195 = .ok (.iload 6, 2) := by decide +kernel
theorem d_Mo_once_197 : decode prog_14_method_41_code 197 = .ok (.iload 7, 2) := by decide +kernel
theorem d_Mo_once_199 : decode prog_14_method_41_code 199 = .ok (.invokevirtual 149, 3) := by decide +kernel
theorem d_Mo_once_202 : decode prog_14_method_41_code 202 = .ok (.return_, 1) := by decide +kernel
theorem d_Mo_step_0 : decode prog_14_method_42_code 0 = .ok (.iload_n 1, 1) := by decide +kernel
theorem d_Mo_step_1 : decode prog_14_method_42_code 1 = .ok (.invokestatic 146, 3) := by decide +kernel
theorem d_Mo_step_4 : decode prog_14_method_42_code 4 = .ok (.ifCond .eq 13, 3) := by decide +kernel
theorem d_Mo_step_7 : decode prog_14_method_42_code 7 = .ok (.iload_n 2, 1) := by decide +kernel
theorem d_Mo_step_8 : decode prog_14_method_42_code 8 = .ok (.ifCond .lt 9, 3) := by decide +kernel
theorem d_Mo_step_11 : decode prog_14_method_42_code 11 = .ok (.iload_n 2, 1) := by decide +kernel
theorem d_Mo_step_12 : decode prog_14_method_42_code 12 = .ok (.bipush 100, 2) := by decide +kernel
theorem d_Mo_step_14 : decode prog_14_method_42_code 14 = .ok (.if_icmp .le 5, 3) := by decide +kernel
theorem d_Mo_step_17 : decode prog_14_method_42_code 17 = .ok (.iconst (-1), 1) := by decide +kernel
theorem d_Mo_step_18 : decode prog_14_method_42_code 18 = .ok (.ireturn, 1) := by decide +kernel
theorem d_Mo_step_19 : decode prog_14_method_42_code 19 = .ok (.iconst 0, 1) := by decide +kernel
theorem d_Mo_step_20 : decode prog_14_method_42_code 20 = .ok (.istore_n 3, 1) := by decide +kernel
theorem d_Mo_step_21 : decode prog_14_method_42_code 21 = .ok (.iload_n 3, 1) := by decide +kernel
theorem d_Mo_step_22 : decode prog_14_method_42_code 22 = .ok (.iload_n 2, 1) := by decide +kernel
theorem d_Mo_step_23 : decode prog_14_method_42_code 23 = .ok (.if_icmp .ge 23, 3) := by decide +kernel
theorem d_Mo_step_26 : decode prog_14_method_42_code 26 = .ok (.aload_n 0, 1) := by decide +kernel
theorem d_Mo_step_27 : decode prog_14_method_42_code 27 = .ok (.getfield 48, 3) := by decide +kernel
theorem d_Mo_step_30 : decode prog_14_method_42_code 30 = .ok (.iload_n 1, 1) := by decide +kernel
theorem d_Mo_step_31 : decode prog_14_method_42_code 31 = .ok (.iaload, 1) := by decide +kernel
theorem d_Mo_step_32 : decode prog_14_method_42_code 32 = .ok (.ifCond .le 14, 3) := by decide +kernel
theorem d_Mo_step_35 : decode prog_14_method_42_code 35 = .ok (.aload_n 0, 1) := by decide +kernel
theorem d_Mo_step_36 : decode prog_14_method_42_code 36 = .ok (.iload_n 1, 1) := by decide +kernel
theorem d_Mo_step_37 : decode prog_14_method_42_code 37 = .ok (.invokevirtual 152, 3) := by decide +kernel
theorem d_Mo_step_40 : decode prog_14_method_42_code 40 = .ok (.iinc 3 1, 3) := by decide +kernel
theorem d_Mo_step_43 : decode prog_14_method_42_code 43 = .ok (.goto (-22), 3) := by decide +kernel
theorem d_Mo_step_46 : decode prog_14_method_42_code 46 = .ok (.iload_n 3, 1) := by decide +kernel
theorem d_Mo_step_47 : decode prog_14_method_42_code 47 = .ok (.ireturn, 1) := by decide +kernel
theorem d_Mo_frame_0 : decode prog_14_method_43_code 0 = .ok (.iload_n 1, 1) := by decide +kernel
theorem d_Mo_frame_1 : decode prog_14_method_43_code 1 = .ok (.invokestatic 146, 3) := by decide +kernel
theorem d_Mo_frame_4 : decode prog_14_method_43_code 4 = .ok (.ifCond .eq 17, 3) := by decide +kernel
theorem d_Mo_frame_7 : decode prog_14_method_43_code 7 = .ok (.iload_n 2, 1) := by decide +kernel
theorem d_Mo_frame_8 : decode prog_14_method_43_code 8 = .ok (.ifCond .lt 13, 3) := by decide +kernel
theorem d_Mo_frame_11 : decode prog_14_method_43_code 11 = .ok (.iload_n 2, 1) := by decide +kernel
theorem d_Mo_frame_12 : decode prog_14_method_43_code 12 = .ok (.aload_n 0, 1) := by decide +kernel
theorem d_Mo_frame_13 : decode prog_14_method_43_code 13 = .ok (.getfield 48, 3) := by decide +kernel
theorem d_Mo_frame_16 : decode prog_14_method_43_code 16 = .ok (.iload_n 1, 1) := by decide +kernel
theorem d_Mo_frame_17 : decode prog_14_method_43_code 17 = .ok (.iaload, 1) := by decide +kernel
theorem d_Mo_frame_18 : decode prog_14_method_43_code 18 = .ok (.if_icmp .lt 5, 3) := by decide +kernel
theorem d_Mo_frame_21 : decode prog_14_method_43_code 21 = .ok (.iconst (-1), 1) := by decide +kernel
theorem d_Mo_frame_22 : decode prog_14_method_43_code 22 = .ok (.ireturn, 1) := by decide +kernel
theorem d_Mo_frame_23 : decode prog_14_method_43_code 23 = .ok (.aload_n 0, 1) := by decide +kernel
theorem d_Mo_frame_24 : decode prog_14_method_43_code 24 = .ok (.getfield 51, 3) := by decide +kernel
theorem d_Mo_frame_27 : decode prog_14_method_43_code 27 = .ok (.iconst 5, 1) := by decide +kernel
theorem d_Mo_frame_28 : decode prog_14_method_43_code 28 = .ok (.iload_n 1, 1) := by decide +kernel
theorem d_Mo_frame_29 : decode prog_14_method_43_code 29 = .ok (.imul, 1) := by decide +kernel
theorem d_Mo_frame_30 : decode prog_14_method_43_code 30 = .ok (.iload_n 2, 1) := by decide +kernel
theorem d_Mo_frame_31 : decode prog_14_method_43_code 31 = .ok (.iadd, 1) := by decide +kernel
theorem d_Mo_frame_32 : decode prog_14_method_43_code 32 = .ok (.iaload, 1) := by decide +kernel
theorem d_Mo_frame_33 : decode prog_14_method_43_code 33 = .ok (.istore_n 3, 1) := by decide +kernel
theorem d_Mo_frame_34 : decode prog_14_method_43_code 34 = .ok (.bipush 8, 2) := by decide +kernel
theorem d_Mo_frame_36 : decode prog_14_method_43_code 36 = .ok (.aload_n 0, 1) := by decide +kernel
theorem d_Mo_frame_37 : decode prog_14_method_43_code 37 = .ok (.getfield 23, 3) := by decide +kernel
theorem d_Mo_frame_40 : decode prog_14_method_43_code 40 = .ok (.iload_n 3, 1) := by decide +kernel
theorem d_Mo_frame_41 : decode prog_14_method_43_code 41 = .ok (.iaload, 1) := by decide +kernel
theorem d_Mo_frame_42 : decode prog_14_method_43_code 42 = .ok (.imul, 1) := by decide +kernel
theorem d_Mo_frame_43 : decode prog_14_method_43_code 43 = .ok (.aload_n 0, 1) := by decide +kernel
theorem d_Mo_frame_44 : decode prog_14_method_43_code 44 = .ok (.getfield 26, 3) := by decide +kernel
theorem d_Mo_frame_47 : decode prog_14_method_43_code 47 = .ok (.iload_n 3, 1) := by decide +kernel
theorem d_Mo_frame_48 : decode prog_14_method_43_code 48 = .ok (.iaload, 1) := by decide +kernel
theorem d_Mo_frame_49 : decode prog_14_method_43_code 49 = .ok (.iadd, 1) := by decide +kernel
theorem d_Mo_frame_50 : decode prog_14_method_43_code 50 = .ok (.ireturn, 1) := by decide +kernel
theorem d_Mo_result_0 : decode prog_14_method_44_code 0 = .ok (.iload_n 1, 1) := by decide +kernel
theorem d_Mo_result_1 : decode prog_14_method_44_code 1 = .ok (.invokestatic 146, 3) := by decide +kernel
theorem d_Mo_result_4 : decode prog_14_method_44_code 4 = .ok (.ifCond .eq 12, 3) := by decide +kernel
theorem d_Mo_result_7 : decode prog_14_method_44_code 7 = .ok (.aload_n 0, 1) := by decide +kernel
theorem d_Mo_result_8 : decode prog_14_method_44_code 8 = .ok (.getfield 63, 3) := by decide +kernel
theorem d_Mo_result_11 : decode prog_14_method_44_code 11 = .ok (.iload_n 1, 1) := by decide +kernel
theorem d_Mo_result_12 : decode prog_14_method_44_code 12 = .ok (.iaload, 1) := by decide +kernel
theorem d_Mo_result_13 : decode prog_14_method_44_code 13 = .ok (.goto 4, 3) := by decide +kernel
theorem d_Mo_result_16 : decode prog_14_method_44_code 16 = .ok (.iconst 0, 1) := by decide +kernel
theorem d_Mo_result_17 : decode prog_14_method_44_code 17 = .ok (.ireturn, 1) := by decide +kernel
theorem d_Mo_edition_0 : decode prog_14_method_45_code 0 = .ok (.aload_n 0, 1) := by decide +kernel
theorem d_Mo_edition_1 : decode prog_14_method_45_code 1 = .ok (.iload_n 1, 1) := by decide +kernel
theorem d_Mo_edition_2 : decode prog_14_method_45_code 2 = .ok (.invokevirtual 77, 3) := by decide +kernel
theorem d_Mo_edition_5 : decode prog_14_method_45_code 5 = .ok (.ifCond .eq 12, 3) := by decide +kernel
theorem d_Mo_edition_8 : decode prog_14_method_45_code 8 = .ok (.aload_n 0, 1) := by decide +kernel
theorem d_Mo_edition_9 : decode prog_14_method_45_code 9 = .ok (.getfield 20, 3) := by decide +kernel
theorem d_Mo_edition_12 : decode prog_14_method_45_code 12 = .ok (.iload_n 1, 1) := by decide +kernel
theorem d_Mo_edition_13 : decode prog_14_method_45_code 13 = .ok (.iaload, 1) := by decide +kernel
theorem d_Mo_edition_14 : decode prog_14_method_45_code 14 = .ok (.goto 4, 3) := by decide +kernel
theorem d_Mo_edition_17 : decode prog_14_method_45_code 17 = .ok (.iconst 0, 1) := by decide +kernel
theorem d_Mo_edition_18 : decode prog_14_method_45_code 18 = .ok (.ireturn, 1) := by decide +kernel
theorem d_Mo_kept_0 : decode prog_14_method_46_code 0 = .ok (.aload_n 0, 1) := by decide +kernel
theorem d_Mo_kept_1 : decode prog_14_method_46_code 1 = .ok (.iload_n 1, 1) := by decide +kernel
theorem d_Mo_kept_2 : decode prog_14_method_46_code 2 = .ok (.invokevirtual 77, 3) := by decide +kernel
theorem d_Mo_kept_5 : decode prog_14_method_46_code 5 = .ok (.ifCond .ne 5, 3) := by decide +kernel
theorem d_Mo_kept_8 : decode prog_14_method_46_code 8 = .ok (.iconst 0, 1) := by decide +kernel
theorem d_Mo_kept_9 : decode prog_14_method_46_code 9 = .ok (.ireturn, 1) := by decide +kernel
theorem d_Mo_kept_10 : decode prog_14_method_46_code 10 = .ok (.iconst 0, 1) := by decide +kernel
theorem d_Mo_kept_11 : decode prog_14_method_46_code 11 = .ok (.istore_n 2, 1) := by decide +kernel
theorem d_Mo_kept_12 : decode prog_14_method_46_code 12 = .ok (.bipush 17, 2) := by decide +kernel
theorem d_Mo_kept_14 : decode prog_14_method_46_code 14 = .ok (.istore_n 3, 1) := by decide +kernel
theorem d_Mo_kept_15 : decode prog_14_method_46_code 15 = .ok (.iload_n 3, 1) := by decide +kernel
theorem d_Mo_kept_16 : decode prog_14_method_46_code 16 = .ok (.bipush 41, 2) := by decide +kernel
theorem d_Mo_kept_18 : decode prog_14_method_46_code 18 = .ok (.if_icmp .ge 35, 3) := by decide +kernel
theorem d_Mo_kept_21 : decode prog_14_method_46_code 21 = .ok (.iload_n 2, 1) := by decide +kernel
theorem d_Mo_kept_22 : decode prog_14_method_46_code 22 = .ok (.aload_n 0, 1) := by decide +kernel
theorem d_Mo_kept_23 : decode prog_14_method_46_code 23 = .ok (.getfield 26, 3) := by decide +kernel
theorem d_Mo_kept_26 : decode prog_14_method_46_code 26 = .ok (.iload_n 3, 1) := by decide +kernel
theorem d_Mo_kept_27 : decode prog_14_method_46_code 27 = .ok (.iaload, 1) := by decide +kernel
theorem d_Mo_kept_28 : decode prog_14_method_46_code 28 = .ok (.iload_n 1, 1) := by decide +kernel
theorem d_Mo_kept_29 : decode prog_14_method_46_code 29 = .ok (.if_icmp .ne 15, 3) := by decide +kernel
theorem d_Mo_kept_32 : decode prog_14_method_46_code 32 = .ok (.aload_n 0, 1) := by decide +kernel
theorem d_Mo_kept_33 : decode prog_14_method_46_code 33 = .ok (.iload_n 3, 1) := by decide +kernel
theorem d_Mo_kept_34 : decode prog_14_method_46_code 34 = .ok (.invokevirtual 131, 3) := by decide +kernel
theorem d_Mo_kept_37 : decode prog_14_method_46_code 37 = .ok (.ifCond .eq 7, 3) := by decide +kernel
theorem d_Mo_kept_40 : decode prog_14_method_46_code 40 = .ok (.iconst 1, 1) := by decide +kernel
theorem d_Mo_kept_41 : decode prog_14_method_46_code 41 = .ok (.goto 4, 3) := by decide +kernel
theorem d_Mo_kept_44 : decode prog_14_method_46_code 44 = .ok (.iconst 0, 1) := by decide +kernel
theorem d_Mo_kept_45 : decode prog_14_method_46_code 45 = .ok (.iadd, 1) := by decide +kernel
theorem d_Mo_kept_46 : decode prog_14_method_46_code 46 = .ok (.istore_n 2, 1) := by decide +kernel
theorem d_Mo_kept_47 : decode prog_14_method_46_code 47 = .ok (.iinc 3 1, 3) := by decide +kernel
theorem d_Mo_kept_50 : decode prog_14_method_46_code 50 = .ok (.goto (-35), 3) := by decide +kernel
theorem d_Mo_kept_53 : decode prog_14_method_46_code 53 = .ok (.iload_n 2, 1) := by decide +kernel
theorem d_Mo_kept_54 : decode prog_14_method_46_code 54 = .ok (.ireturn, 1) := by decide +kernel

theorem d_EF_init_0 : decode prog_1_method_1_code 0 = .ok (.aload_n 0, 1) := by decide +kernel
theorem d_EF_init_1 : decode prog_1_method_1_code 1 = .ok (.invokespecial 1, 3) := by decide +kernel
theorem d_EF_init_4 : decode prog_1_method_1_code 4 = .ok (.aload_n 0, 1) := by decide +kernel
theorem d_EF_init_5 : decode prog_1_method_1_code 5 = .ok (.new 7, 3) := by decide +kernel
theorem d_EF_init_8 : decode prog_1_method_1_code 8 = .ok (.dup, 1) := by decide +kernel
theorem d_EF_init_9 : decode prog_1_method_1_code 9 = .ok (.sipush 640, 3) := by decide +kernel
theorem d_EF_init_12 : decode prog_1_method_1_code 12 = .ok (.invokespecial 11, 3) := by decide +kernel
theorem d_EF_init_15 : decode prog_1_method_1_code 15 = .ok (.putfield 14, 3) := by decide +kernel
theorem d_EF_init_18 : decode prog_1_method_1_code 18 = .ok (.aload_n 0, 1) := by decide +kernel
theorem d_EF_init_19 : decode prog_1_method_1_code 19 = .ok (.new 7, 3) := by decide +kernel
theorem d_EF_init_22 : decode prog_1_method_1_code 22 = .ok (.dup, 1) := by decide +kernel
theorem d_EF_init_23 : decode prog_1_method_1_code 23 = .ok (.sipush 640, 3) := by decide +kernel
theorem d_EF_init_26 : decode prog_1_method_1_code 26 = .ok (.invokespecial 11, 3) := by decide +kernel
theorem d_EF_init_29 : decode prog_1_method_1_code 29 = .ok (.putfield 18, 3) := by decide +kernel
theorem d_EF_init_32 : decode prog_1_method_1_code 32 = .ok (.aload_n 0, 1) := by decide +kernel
theorem d_EF_init_33 : decode prog_1_method_1_code 33 = .ok (.new 21, 3) := by decide +kernel
theorem d_EF_init_36 : decode prog_1_method_1_code 36 = .ok (.dup, 1) := by decide +kernel
theorem d_EF_init_37 : decode prog_1_method_1_code 37 = .ok (.invokespecial 23, 3) := by decide +kernel
theorem d_EF_init_40 : decode prog_1_method_1_code 40 = .ok (.putfield 24, 3) := by decide +kernel
theorem d_EF_init_43 : decode prog_1_method_1_code 43 = .ok (.aload_n 0, 1) := by decide +kernel
theorem d_EF_init_44 : decode prog_1_method_1_code 44 = .ok (.new 28, 3) := by decide +kernel
theorem d_EF_init_47 : decode prog_1_method_1_code 47 = .ok (.dup, 1) := by decide +kernel
theorem d_EF_init_48 : decode prog_1_method_1_code 48 = .ok (.invokespecial 30, 3) := by decide +kernel
theorem d_EF_init_51 : decode prog_1_method_1_code 51 = .ok (.putfield 31, 3) := by decide +kernel
theorem d_EF_init_54 : decode prog_1_method_1_code 54 = .ok (.aload_n 0, 1) := by decide +kernel
theorem d_EF_init_55 : decode prog_1_method_1_code 55 = .ok (.new 35, 3) := by decide +kernel
theorem d_EF_init_58 : decode prog_1_method_1_code 58 = .ok (.dup, 1) := by decide +kernel
theorem d_EF_init_59 : decode prog_1_method_1_code 59 = .ok (.aload_n 0, 1) := by decide +kernel
theorem d_EF_init_60 : decode prog_1_method_1_code 60 = .ok (.getfield 14, 3) := by decide +kernel
theorem d_EF_init_63 : decode prog_1_method_1_code 63 = .ok (.aload_n 0, 1) := by decide +kernel
theorem d_EF_init_64 : decode prog_1_method_1_code 64 = .ok (.getfield 31, 3) := by decide +kernel
theorem d_EF_init_67 : decode prog_1_method_1_code 67 = .ok (.invokespecial 37, 3) := by decide +kernel
theorem d_EF_init_70 : decode prog_1_method_1_code 70 = .ok (.putfield 40, 3) := by decide +kernel
theorem d_EF_init_73 : decode prog_1_method_1_code 73 = .ok (.aload_n 0, 1) := by decide +kernel
theorem d_EF_init_74 : decode prog_1_method_1_code 74 = .ok (.new 44, 3) := by decide +kernel
theorem d_EF_init_77 : decode prog_1_method_1_code 77 = .ok (.dup, 1) := by decide +kernel
theorem d_EF_init_78 : decode prog_1_method_1_code 78 = .ok (.aload_n 0, 1) := by decide +kernel
theorem d_EF_init_79 : decode prog_1_method_1_code 79 = .ok (.getfield 31, 3) := by decide +kernel
theorem d_EF_init_82 : decode prog_1_method_1_code 82 = .ok (.aload_n 0, 1) := by decide +kernel
theorem d_EF_init_83 : decode prog_1_method_1_code 83 = .ok (.getfield 18, 3) := by decide +kernel
theorem d_EF_init_86 : decode prog_1_method_1_code 86 = .ok (.invokespecial 46, 3) := by decide +kernel
theorem d_EF_init_89 : decode prog_1_method_1_code 89 = .ok (.putfield 49, 3) := by decide +kernel
theorem d_EF_init_92 : decode prog_1_method_1_code 92 = .ok (.aload_n 0, 1) := by decide +kernel
theorem d_EF_init_93 : decode prog_1_method_1_code 93 = .ok (.new 53, 3) := by decide +kernel
theorem d_EF_init_96 : decode prog_1_method_1_code 96 = .ok (.dup, 1) := by decide +kernel
theorem d_EF_init_97 : decode prog_1_method_1_code 97 = .ok (.aload_n 0, 1) := by decide +kernel
theorem d_EF_init_98 : decode prog_1_method_1_code 98 = .ok (.getfield 31, 3) := by decide +kernel
theorem d_EF_init_101 : decode prog_1_method_1_code 101 = .ok (.invokespecial 55, 3) := by decide +kernel
theorem d_EF_init_104 : decode prog_1_method_1_code 104 = .ok (.putfield 58, 3) := by decide +kernel
theorem d_EF_init_107 : decode prog_1_method_1_code 107 = .ok (.return_, 1) := by decide +kernel
theorem d_EF_feed_0 : decode prog_1_method_2_code 0 = .ok (.iload_n 3, 1) := by decide +kernel
theorem d_EF_feed_1 : decode prog_1_method_2_code 1 = .ok (.iconst 1, 1) := by decide +kernel
theorem d_EF_feed_2 : decode prog_1_method_2_code 2 = .ok (.if_icmp .lt 9, 3) := by decide +kernel
theorem d_EF_feed_5 : decode prog_1_method_2_code 5 = .ok (.iload_n 3, 1) := by decide +kernel
theorem d_EF_feed_6 : decode prog_1_method_2_code 6 = .ok (.bipush 8, 2) := by decide +kernel
theorem d_EF_feed_8 : decode prog_1_method_2_code 8 = .ok (.if_icmp .le 5, 3) := by decide +kernel
theorem d_EF_feed_11 : decode prog_1_method_2_code 11 = .ok (.iconst (-1), 1) := by decide +kernel
theorem d_EF_feed_12 : decode prog_1_method_2_code 12 = .ok (.ireturn, 1) := by decide +kernel
theorem d_EF_feed_13 : decode prog_1_method_2_code 13 = .ok (.aload_n 0, 1) := by decide +kernel
theorem d_EF_feed_14 : decode prog_1_method_2_code 14 = .ok (.getfield 14, 3) := by decide +kernel
theorem d_EF_feed_17 : decode prog_1_method_2_code 17 = .ok (.getfield 62, 3) := by decide +kernel
theorem d_EF_feed_20 : decode prog_1_method_2_code 20 = .ok (.iload_n 3, 1) := by decide +kernel
theorem d_EF_feed_21 : decode prog_1_method_2_code 21 = .ok (.iadd, 1) := by decide +kernel
theorem d_EF_feed_22 : decode prog_1_method_2_code 22 = .ok (.sipush 640, 3) := by decide +kernel
theorem d_EF_feed_25 : decode prog_1_method_2_code 25 = .ok (.if_icmp .le 6, 3) := by decide +kernel
theorem d_EF_feed_28 : decode prog_1_method_2_code 28 = .ok (.bipush (-8), 2) := by decide +kernel
theorem d_EF_feed_30 : decode prog_1_method_2_code 30 = .ok (.ireturn, 1) := by decide +kernel
theorem d_EF_feed_31 : decode prog_1_method_2_code 31 = .ok (.aload_n 0, 1) := by decide +kernel
theorem d_EF_feed_32 : decode prog_1_method_2_code 32 = .ok (.getfield 14, 3) := by decide +kernel
theorem d_EF_feed_35 : decode prog_1_method_2_code 35 = .ok (.lload_n 1, 1) := by decide +kernel
theorem d_EF_feed_36 : decode prog_1_method_2_code 36 = .ok (.iload_n 3, 1) := by decide +kernel
theorem d_EF_feed_37 : decode prog_1_method_2_code 37 = .ok (.invokevirtual 66, 3) := by decide +kernel
theorem d_EF_feed_40 : decode prog_1_method_2_code 40 = .ok (.aload_n 0, 1) := by decide +kernel
theorem d_EF_feed_41 : decode prog_1_method_2_code 41 = .ok (.getfield 14, 3) := by decide +kernel
theorem d_EF_feed_44 : decode prog_1_method_2_code 44 = .ok (.getfield 62, 3) := by decide +kernel
theorem d_EF_feed_47 : decode prog_1_method_2_code 47 = .ok (.ireturn, 1) := by decide +kernel
theorem d_EF_take_0 : decode prog_1_method_3_code 0 = .ok (.aload_n 0, 1) := by decide +kernel
theorem d_EF_take_1 : decode prog_1_method_3_code 1 = .ok (.getfield 14, 3) := by decide +kernel
theorem d_EF_take_4 : decode prog_1_method_3_code 4 = .ok (.iconst 0, 1) := by decide +kernel
theorem d_EF_take_5 : decode prog_1_method_3_code 5 = .ok (.putfield 62, 3) := by decide +kernel
theorem d_EF_take_8 : decode prog_1_method_3_code 8 = .ok (.iload_n 1, 1) := by decide +kernel
theorem d_EF_take_9 : decode prog_1_method_3_code 9 = .ok (.ifCond .eq 37, 3) := by decide +kernel
theorem d_EF_take_12 : decode prog_1_method_3_code 12 = .ok (.iconst 0, 1) := by decide +kernel
theorem d_EF_take_13 : decode prog_1_method_3_code 13 = .ok (.istore_n 2, 1) := by decide +kernel
theorem d_EF_take_14 : decode prog_1_method_3_code 14 = .ok (.iload_n 2, 1) := by decide +kernel
theorem d_EF_take_15 : decode prog_1_method_3_code 15 = .ok (.aload_n 0, 1) := by decide +kernel
theorem d_EF_take_16 : decode prog_1_method_3_code 16 = .ok (.getfield 18, 3) := by decide +kernel
theorem d_EF_take_19 : decode prog_1_method_3_code 19 = .ok (.getfield 62, 3) := by decide +kernel
theorem d_EF_take_22 : decode prog_1_method_3_code 22 = .ok (.if_icmp .ge 24, 3) := by decide +kernel
theorem d_EF_take_25 : decode prog_1_method_3_code 25 = .ok (.aload_n 0, 1) := by decide +kernel
theorem d_EF_take_26 : decode prog_1_method_3_code 26 = .ok (.getfield 14, 3) := by decide +kernel
theorem d_EF_take_29 : decode prog_1_method_3_code 29 = .ok (.aload_n 0, 1) := by decide +kernel
theorem d_EF_take_30 : decode prog_1_method_3_code 30 = .ok (.getfield 18, 3) := by decide +kernel
theorem d_EF_take_33 : decode prog_1_method_3_code 33 = .ok (.iload_n 2, 1) := by decide +kernel
theorem d_EF_take_34 : decode prog_1_method_3_code 34 = .ok (.invokevirtual 70, 3) := by decide +kernel
theorem d_EF_take_37 : decode prog_1_method_3_code 37 = .ok (.invokevirtual 74, 3) := by decide +kernel
theorem d_EF_take_40 : decode prog_1_method_3_code 40 = .ok (.iinc 2 1, 3) := by decide +kernel
theorem d_EF_take_43 : decode prog_1_method_3_code 43 = .ok (.goto (-29), 3) := by decide +kernel
theorem d_EF_take_46 : decode prog_1_method_3_code 46 = .ok (.aload_n 0, 1) := by decide +kernel
theorem d_EF_take_47 : decode prog_1_method_3_code 47 = .ok (.getfield 14, 3) := by decide +kernel
theorem d_EF_take_50 : decode prog_1_method_3_code 50 = .ok (.getfield 62, 3) := by decide +kernel
theorem d_EF_take_53 : decode prog_1_method_3_code 53 = .ok (.ireturn, 1) := by decide +kernel
theorem d_EF_out_0 : decode prog_1_method_4_code 0 = .ok (.aload_n 0, 1) := by decide +kernel
theorem d_EF_out_1 : decode prog_1_method_4_code 1 = .ok (.getfield 18, 3) := by decide +kernel
theorem d_EF_out_4 : decode prog_1_method_4_code 4 = .ok (.iload_n 1, 1) := by decide +kernel
theorem d_EF_out_5 : decode prog_1_method_4_code 5 = .ok (.invokevirtual 70, 3) := by decide +kernel
theorem d_EF_out_8 : decode prog_1_method_4_code 8 = .ok (.ireturn, 1) := by decide +kernel
theorem d_EF_read_0 : decode prog_1_method_5_code 0 = .ok (.aload_n 0, 1) := by decide +kernel
theorem d_EF_read_1 : decode prog_1_method_5_code 1 = .ok (.getfield 40, 3) := by decide +kernel
theorem d_EF_read_4 : decode prog_1_method_5_code 4 = .ok (.invokevirtual 77, 3) := by decide +kernel
theorem d_EF_read_7 : decode prog_1_method_5_code 7 = .ok (.ireturn, 1) := by decide +kernel
theorem d_EF_where_0 : decode prog_1_method_6_code 0 = .ok (.aload_n 0, 1) := by decide +kernel
theorem d_EF_where_1 : decode prog_1_method_6_code 1 = .ok (.getfield 40, 3) := by decide +kernel
theorem d_EF_where_4 : decode prog_1_method_6_code 4 = .ok (.getfield 81, 3) := by decide +kernel
theorem d_EF_where_7 : decode prog_1_method_6_code 7 = .ok (.ireturn, 1) := by decide +kernel
theorem d_EF_clear_0 : decode prog_1_method_7_code 0 = .ok (.aload_n 0, 1) := by decide +kernel
theorem d_EF_clear_1 : decode prog_1_method_7_code 1 = .ok (.getfield 31, 3) := by decide +kernel
theorem d_EF_clear_4 : decode prog_1_method_7_code 4 = .ok (.invokevirtual 84, 3) := by decide +kernel
theorem d_EF_clear_7 : decode prog_1_method_7_code 7 = .ok (.return_, 1) := by decide +kernel
theorem d_EF_make_0 : decode prog_1_method_8_code 0 = .ok (.aload_n 0, 1) := by decide +kernel
theorem d_EF_make_1 : decode prog_1_method_8_code 1 = .ok (.getfield 31, 3) := by decide +kernel
theorem d_EF_make_4 : decode prog_1_method_8_code 4 = .ok (.iload_n 1, 1) := by decide +kernel
theorem d_EF_make_5 : decode prog_1_method_8_code 5 = .ok (.invokevirtual 87, 3) := by decide +kernel
theorem d_EF_make_8 : decode prog_1_method_8_code 8 = .ok (.astore 5, 2) := by decide +kernel
theorem d_EF_make_10 : decode prog_1_method_8_code 10 = .ok (.aload 5, 2) := by decide +kernel
theorem d_EF_make_12 : decode prog_1_method_8_code 12 = .ok (.ifnonnull 10, 3) := by decide +kernel
theorem d_EF_make_15 : decode prog_1_method_8_code 15 = .ok (.iload_n 1, 1) := by decide +kernel
theorem d_EF_make_16 : decode prog_1_method_8_code 16 = .ok (.iconst (-1), 1) := by decide +kernel
theorem d_EF_make_17 : decode prog_1_method_8_code 17 = .ok (.if_icmp .eq 5, 3) := by decide +kernel
theorem d_EF_make_20 : decode prog_1_method_8_code 20 = .ok (.iconst (-1), 1) := by decide +kernel
theorem d_EF_make_21 : decode prog_1_method_8_code 21 = .ok (.ireturn, 1) := by decide +kernel
theorem d_EF_make_22 : decode prog_1_method_8_code 22 = .ok (.iload_n 2, 1) := by decide +kernel
theorem d_EF_make_23 : decode prog_1_method_8_code 23 = .ok (.invokestatic 90, 3) := by decide +kernel
theorem d_EF_make_26 : decode prog_1_method_8_code 26 = .ok (.astore 6, 2) := by decide +kernel
theorem d_EF_make_28 : decode prog_1_method_8_code 28 = .ok (.aload 6, 2) := by decide +kernel
theorem d_EF_make_30 : decode prog_1_method_8_code 30 = .ok (.getstatic 96, 3) := by decide +kernel
theorem d_EF_make_33 : decode prog_1_method_8_code 33 = .ok (.if_acmp .eq 25, 3) := by decide +kernel
theorem d_EF_make_36 : decode prog_1_method_8_code 36 = .ok (.aload 6, 2) := by decide +kernel
theorem d_EF_make_38 : decode prog_1_method_8_code 38 = .ok (.getstatic 100, 3) := by decide +kernel
theorem d_EF_make_41 : decode prog_1_method_8_code 41 = .ok (.if_acmp .eq 17, 3) := by decide +kernel
theorem d_EF_make_44 : decode prog_1_method_8_code 44 = .ok (.aload_n 0, 1) := by decide +kernel
theorem d_EF_make_45 : decode prog_1_method_8_code 45 = .ok (.getfield 31, 3) := by decide +kernel
theorem d_EF_make_48 : decode prog_1_method_8_code 48 = .ok (.aload 6, 2) := by decide +kernel
theorem d_EF_make_50 : decode prog_1_method_8_code 50 = .ok (.aload 5, 2) := by decide +kernel
theorem d_EF_make_52 : decode prog_1_method_8_code 52 = .ok (.invokevirtual 103, 3) := by decide +kernel
theorem d_EF_make_55 : decode prog_1_method_8_code 55 = .ok (.ifCond .ne 6, 3) := by decide +kernel
theorem d_EF_make_58 : decode prog_1_method_8_code 58 = .ok (.bipush (-4), 2) := by decide +kernel
theorem d_EF_make_60 : decode prog_1_method_8_code 60 = .ok (.ireturn, 1) := by decide +kernel
theorem d_EF_make_61 : decode prog_1_method_8_code 61 = .ok (.aload 6, 2) := by decide +kernel
theorem d_EF_make_63 : decode prog_1_method_8_code 63 = .ok (.getstatic 107, 3) := by decide +kernel
theorem d_EF_make_66 : decode prog_1_method_8_code 66 = .ok (.if_acmp .ne 20, 3) := by decide +kernel
theorem d_EF_make_69 : decode prog_1_method_8_code 69 = .ok (.lload_n 3, 1) := by decide +kernel
theorem d_EF_make_70 : decode prog_1_method_8_code 70 = .ok (.lconst 0, 1) := by decide +kernel
theorem d_EF_make_71 : decode prog_1_method_8_code 71 = .ok (.lcmp, 1) := by decide +kernel
theorem d_EF_make_72 : decode prog_1_method_8_code 72 = .ok (.ifCond .lt 11, 3) := by decide +kernel
theorem d_EF_make_75 : decode prog_1_method_8_code 75 = .ok (.lload_n 3, 1) := by decide +kernel
theorem d_EF_make_76 : decode prog_1_method_8_code 76 = .ok (.ldc2_w 110, 3) := by decide +kernel
theorem d_EF_make_79 : decode prog_1_method_8_code 79 = .ok (.lcmp, 1) := by decide +kernel
theorem d_EF_make_80 : decode prog_1_method_8_code 80 = .ok (.ifCond .le 6, 3) := by decide +kernel
theorem d_EF_make_83 : decode prog_1_method_8_code 83 = .ok (.bipush (-7), 2) := by decide +kernel
theorem d_EF_make_85 : decode prog_1_method_8_code 85 = .ok (.ireturn, 1) := by decide +kernel
theorem d_EF_make_86 : decode prog_1_method_8_code 86 = .ok (.aload_n 0, 1) := by decide +kernel
theorem d_EF_make_87 : decode prog_1_method_8_code 87 = .ok (.getfield 31, 3) := by decide +kernel
theorem d_EF_make_90 : decode prog_1_method_8_code 90 = .ok (.aload 5, 2) := by decide +kernel
theorem d_EF_make_92 : decode prog_1_method_8_code 92 = .ok (.aload 6, 2) := by decide +kernel
theorem d_EF_make_94 : decode prog_1_method_8_code 94 = .ok (.iload_n 2, 1) := by decide +kernel
theorem d_EF_make_95 : decode prog_1_method_8_code 95 = .ok (.invokevirtual 112, 3) := by decide +kernel
theorem d_EF_make_98 : decode prog_1_method_8_code 98 = .ok (.astore 7, 2) := by decide +kernel
theorem d_EF_make_100 : decode prog_1_method_8_code 100 = .ok (.aload 7, 2) := by decide +kernel
theorem d_EF_make_102 : decode prog_1_method_8_code 102 = .ok (.ifnonnull 6, 3) := by decide +kernel
theorem d_EF_make_105 : decode prog_1_method_8_code 105 = .ok (.bipush (-6), 2) := by decide +kernel
theorem d_EF_make_107 : decode prog_1_method_8_code 107 = .ok (.ireturn, 1) := by decide +kernel
theorem d_EF_make_108 : decode prog_1_method_8_code 108 = .ok (.aload 6, 2) := by decide +kernel
theorem d_EF_make_110 : decode prog_1_method_8_code 110 = .ok (.getstatic 107, 3) := by decide +kernel
theorem d_EF_make_113 : decode prog_1_method_8_code 113 = .ok (.if_acmp .eq 12, 3) := by decide +kernel
theorem d_EF_make_116 : decode prog_1_method_8_code 116 = .ok (.aload 6, 2) := by decide +kernel
theorem d_EF_make_118 : decode prog_1_method_8_code 118 = .ok (.getfield 116, 3) := by decide +kernel
theorem d_EF_make_121 : decode prog_1_method_8_code 121 = .ok (.iconst 1, 1) := by decide +kernel
theorem d_EF_make_122 : decode prog_1_method_8_code 122 = .ok (.if_icmp .ne 9, 3) := by decide +kernel
theorem d_EF_make_125 : decode prog_1_method_8_code 125 = .ok (.aload 7, 2) := by decide +kernel
theorem d_EF_make_127 : decode prog_1_method_8_code 127 = .ok (.lload_n 3, 1) := by decide +kernel
theorem d_EF_make_128 : decode prog_1_method_8_code 128 = .ok (.putfield 119, 3) := by decide +kernel
theorem d_EF_make_131 : decode prog_1_method_8_code 131 = .ok (.aload 7, 2) := by decide +kernel
theorem d_EF_make_133 : decode prog_1_method_8_code 133 = .ok (.getfield 125, 3) := by decide +kernel
theorem d_EF_make_136 : decode prog_1_method_8_code 136 = .ok (.ireturn, 1) := by decide +kernel
theorem d_EF_letter_0 : decode prog_1_method_9_code 0 = .ok (.aload_n 0, 1) := by decide +kernel
theorem d_EF_letter_1 : decode prog_1_method_9_code 1 = .ok (.getfield 31, 3) := by decide +kernel
theorem d_EF_letter_4 : decode prog_1_method_9_code 4 = .ok (.iload_n 1, 1) := by decide +kernel
theorem d_EF_letter_5 : decode prog_1_method_9_code 5 = .ok (.invokevirtual 87, 3) := by decide +kernel
theorem d_EF_letter_8 : decode prog_1_method_9_code 8 = .ok (.astore_n 3, 1) := by decide +kernel
theorem d_EF_letter_9 : decode prog_1_method_9_code 9 = .ok (.aload_n 3, 1) := by decide +kernel
theorem d_EF_letter_10 : decode prog_1_method_9_code 10 = .ok (.ifnull 21, 3) := by decide +kernel
theorem d_EF_letter_13 : decode prog_1_method_9_code 13 = .ok (.aload_n 3, 1) := by decide +kernel
theorem d_EF_letter_14 : decode prog_1_method_9_code 14 = .ok (.getfield 128, 3) := by decide +kernel
theorem d_EF_letter_17 : decode prog_1_method_9_code 17 = .ok (.getfield 116, 3) := by decide +kernel
theorem d_EF_letter_20 : decode prog_1_method_9_code 20 = .ok (.iconst 2, 1) := by decide +kernel
theorem d_EF_letter_21 : decode prog_1_method_9_code 21 = .ok (.if_icmp .ne 10, 3) := by decide +kernel
theorem d_EF_letter_24 : decode prog_1_method_9_code 24 = .ok (.iload_n 2, 1) := by decide +kernel
theorem d_EF_letter_25 : decode prog_1_method_9_code 25 = .ok (.invokestatic 131, 3) := by decide +kernel
theorem d_EF_letter_28 : decode prog_1_method_9_code 28 = .ok (.ifCond .ne 5, 3) := by decide +kernel
theorem d_EF_letter_31 : decode prog_1_method_9_code 31 = .ok (.iconst (-1), 1) := by decide +kernel
theorem d_EF_letter_32 : decode prog_1_method_9_code 32 = .ok (.ireturn, 1) := by decide +kernel
theorem d_EF_letter_33 : decode prog_1_method_9_code 33 = .ok (.aload_n 3, 1) := by decide +kernel
theorem d_EF_letter_34 : decode prog_1_method_9_code 34 = .ok (.iload_n 2, 1) := by decide +kernel
theorem d_EF_letter_35 : decode prog_1_method_9_code 35 = .ok (.invokevirtual 135, 3) := by decide +kernel
theorem d_EF_letter_38 : decode prog_1_method_9_code 38 = .ok (.ifCond .eq 11, 3) := by decide +kernel
theorem d_EF_letter_41 : decode prog_1_method_9_code 41 = .ok (.aload_n 3, 1) := by decide +kernel
theorem d_EF_letter_42 : decode prog_1_method_9_code 42 = .ok (.getfield 119, 3) := by decide +kernel
theorem d_EF_letter_45 : decode prog_1_method_9_code 45 = .ok (.l2i, 1) := by decide +kernel
theorem d_EF_letter_46 : decode prog_1_method_9_code 46 = .ok (.goto 5, 3) := by decide +kernel
theorem d_EF_letter_49 : decode prog_1_method_9_code 49 = .ok (.bipush (-8), 2) := by decide +kernel
theorem d_EF_letter_51 : decode prog_1_method_9_code 51 = .ok (.ireturn, 1) := by decide +kernel
theorem d_EF_frame_0 : decode prog_1_method_10_code 0 = .ok (.iload_n 1, 1) := by decide +kernel
theorem d_EF_frame_1 : decode prog_1_method_10_code 1 = .ok (.ifCond .lt 21, 3) := by decide +kernel
theorem d_EF_frame_4 : decode prog_1_method_10_code 4 = .ok (.iload_n 1, 1) := by decide +kernel
theorem d_EF_frame_5 : decode prog_1_method_10_code 5 = .ok (.sipush 300, 3) := by decide +kernel
theorem d_EF_frame_8 : decode prog_1_method_10_code 8 = .ok (.if_icmp .gt 14, 3) := by decide +kernel
theorem d_EF_frame_11 : decode prog_1_method_10_code 11 = .ok (.iload_n 2, 1) := by decide +kernel
theorem d_EF_frame_12 : decode prog_1_method_10_code 12 = .ok (.ifCond .lt 10, 3) := by decide +kernel
theorem d_EF_frame_15 : decode prog_1_method_10_code 15 = .ok (.iload_n 2, 1) := by decide +kernel
theorem d_EF_frame_16 : decode prog_1_method_10_code 16 = .ok (.sipush 255, 3) := by decide +kernel
theorem d_EF_frame_19 : decode prog_1_method_10_code 19 = .ok (.if_icmp .le 5, 3) := by decide +kernel
theorem d_EF_frame_22 : decode prog_1_method_10_code 22 = .ok (.iconst (-1), 1) := by decide +kernel
theorem d_EF_frame_23 : decode prog_1_method_10_code 23 = .ok (.ireturn, 1) := by decide +kernel
theorem d_EF_frame_24 : decode prog_1_method_10_code 24 = .ok (.aload_n 0, 1) := by decide +kernel
theorem d_EF_frame_25 : decode prog_1_method_10_code 25 = .ok (.getfield 24, 3) := by decide +kernel
theorem d_EF_frame_28 : decode prog_1_method_10_code 28 = .ok (.iload_n 1, 1) := by decide +kernel
theorem d_EF_frame_29 : decode prog_1_method_10_code 29 = .ok (.iload_n 2, 1) := by decide +kernel
theorem d_EF_frame_30 : decode prog_1_method_10_code 30 = .ok (.invokevirtual 138, 3) := by decide +kernel
theorem d_EF_frame_33 : decode prog_1_method_10_code 33 = .ok (.ifCond .eq 13, 3) := by decide +kernel
theorem d_EF_frame_36 : decode prog_1_method_10_code 36 = .ok (.aload_n 0, 1) := by decide +kernel
theorem d_EF_frame_37 : decode prog_1_method_10_code 37 = .ok (.getfield 24, 3) := by decide +kernel
theorem d_EF_frame_40 : decode prog_1_method_10_code 40 = .ok (.getfield 141, 3) := by decide +kernel
theorem d_EF_frame_43 : decode prog_1_method_10_code 43 = .ok (.goto 5, 3) := by decide +kernel
theorem d_EF_frame_46 : decode prog_1_method_10_code 46 = .ok (.bipush (-6), 2) := by decide +kernel
theorem d_EF_frame_48 : decode prog_1_method_10_code 48 = .ok (.ireturn, 1) := by decide +kernel
theorem d_EF_block_0 : decode prog_1_method_11_code 0 = .ok (.aload_n 0, 1) := by decide +kernel
theorem d_EF_block_1 : decode prog_1_method_11_code 1 = .ok (.getfield 31, 3) := by decide +kernel
theorem d_EF_block_4 : decode prog_1_method_11_code 4 = .ok (.iload_n 1, 1) := by decide +kernel
theorem d_EF_block_5 : decode prog_1_method_11_code 5 = .ok (.invokevirtual 87, 3) := by decide +kernel
theorem d_EF_block_8 : decode prog_1_method_11_code 8 = .ok (.astore 6, 2) := by decide +kernel
theorem d_EF_block_10 : decode prog_1_method_11_code 10 = .ok (.aload 6, 2) := by decide +kernel
theorem d_EF_block_12 : decode prog_1_method_11_code 12 = .ok (.ifnull 14, 3) := by decide +kernel
theorem d_EF_block_15 : decode prog_1_method_11_code 15 = .ok (.aload 6, 2) := by decide +kernel
theorem d_EF_block_17 : decode prog_1_method_11_code 17 = .ok (.getfield 128, 3) := by decide +kernel
theorem d_EF_block_20 : decode prog_1_method_11_code 20 = .ok (.getstatic 142, 3) := by decide +kernel
theorem d_EF_block_23 : decode prog_1_method_11_code 23 = .ok (.if_acmp .eq 5, 3) := by decide +kernel
theorem d_EF_block_26 : decode prog_1_method_11_code 26 = .ok (.iconst (-1), 1) := by decide +kernel
theorem d_EF_block_27 : decode prog_1_method_11_code 27 = .ok (.ireturn, 1) := by decide +kernel
theorem d_EF_block_28 : decode prog_1_method_11_code 28 = .ok (.iload_n 2, 1) := by decide +kernel
theorem d_EF_block_29 : decode prog_1_method_11_code 29 = .ok (.iconst 1, 1) := by decide +kernel
theorem d_EF_block_30 : decode prog_1_method_11_code 30 = .ok (.if_icmp .lt 35, 3) := by decide +kernel
theorem d_EF_block_33 : decode prog_1_method_11_code 33 = .ok (.iload_n 2, 1) := by decide +kernel
theorem d_EF_block_34 : decode prog_1_method_11_code 34 = .ok (.bipush 126, 2) := by decide +kernel
theorem d_EF_block_36 : decode prog_1_method_11_code 36 = .ok (.if_icmp .gt 29, 3) := by decide +kernel
theorem d_EF_block_39 : decode prog_1_method_11_code 39 = .ok (.iload_n 3, 1) := by decide +kernel
theorem d_EF_block_40 : decode prog_1_method_11_code 40 = .ok (.sipush (-32768), 3) := by decide +kernel
theorem d_EF_block_43 : decode prog_1_method_11_code 43 = .ok (.if_icmp .lt 22, 3) := by decide +kernel
theorem d_EF_block_46 : decode prog_1_method_11_code 46 = .ok (.iload_n 3, 1) := by decide +kernel
theorem d_EF_block_47 : decode prog_1_method_11_code 47 = .ok (.sipush 32767, 3) := by decide +kernel
theorem d_EF_block_50 : decode prog_1_method_11_code 50 = .ok (.if_icmp .gt 15, 3) := by decide +kernel
theorem d_EF_block_53 : decode prog_1_method_11_code 53 = .ok (.aload_n 0, 1) := by decide +kernel
theorem d_EF_block_54 : decode prog_1_method_11_code 54 = .ok (.getfield 24, 3) := by decide +kernel
theorem d_EF_block_57 : decode prog_1_method_11_code 57 = .ok (.iload 5, 2) := by decide +kernel
theorem d_EF_block_59 : decode prog_1_method_11_code 59 = .ok (.invokevirtual 145, 3) := by decide +kernel
theorem d_EF_block_62 : decode prog_1_method_11_code 62 = .ok (.ifCond .ne 6, 3) := by decide +kernel
theorem d_EF_block_65 : decode prog_1_method_11_code 65 = .ok (.bipush (-7), 2) := by decide +kernel
theorem d_EF_block_67 : decode prog_1_method_11_code 67 = .ok (.ireturn, 1) := by decide +kernel
theorem d_EF_block_68 : decode prog_1_method_11_code 68 = .ok (.aload_n 0, 1) := by decide +kernel
theorem d_EF_block_69 : decode prog_1_method_11_code 69 = .ok (.getfield 31, 3) := by decide +kernel
theorem d_EF_block_72 : decode prog_1_method_11_code 72 = .ok (.aload_n 0, 1) := by decide +kernel
theorem d_EF_block_73 : decode prog_1_method_11_code 73 = .ok (.getfield 24, 3) := by decide +kernel
theorem d_EF_block_76 : decode prog_1_method_11_code 76 = .ok (.getfield 148, 3) := by decide +kernel
theorem d_EF_block_79 : decode prog_1_method_11_code 79 = .ok (.invokevirtual 151, 3) := by decide +kernel
theorem d_EF_block_82 : decode prog_1_method_11_code 82 = .ok (.ifCond .ne 6, 3) := by decide +kernel
theorem d_EF_block_85 : decode prog_1_method_11_code 85 = .ok (.bipush (-6), 2) := by decide +kernel
theorem d_EF_block_87 : decode prog_1_method_11_code 87 = .ok (.ireturn, 1) := by decide +kernel
theorem d_EF_block_88 : decode prog_1_method_11_code 88 = .ok (.aload_n 0, 1) := by decide +kernel
theorem d_EF_block_89 : decode prog_1_method_11_code 89 = .ok (.getfield 31, 3) := by decide +kernel
theorem d_EF_block_92 : decode prog_1_method_11_code 92 = .ok (.aload 6, 2) := by decide +kernel
theorem d_EF_block_94 : decode prog_1_method_11_code 94 = .ok (.getstatic 96, 3) := by decide +kernel
theorem d_EF_block_97 : decode prog_1_method_11_code 97 = .ok (.getstatic 96, 3) := by decide +kernel
theorem d_EF_block_100 : decode prog_1_method_11_code 100 = .ok (.getfield 154, 3) := by decide +kernel
theorem d_EF_block_103 : decode prog_1_method_11_code 103 = .ok (.invokevirtual 112, 3) := by decide +kernel
theorem d_EF_block_106 : decode prog_1_method_11_code 106 = .ok (.astore 7, 2) := by decide +kernel
theorem d_EF_block_108 : decode prog_1_method_11_code 108 = .ok (.aload 7, 2) := by decide +kernel
theorem d_EF_block_110 : decode prog_1_method_11_code 110 = .ok (.ifnonnull 6, 3) := by decide +kernel
theorem d_EF_block_113 : decode prog_1_method_11_code 113 = .ok (.bipush (-6), 2) := by decide +kernel
theorem d_EF_block_115 : decode prog_1_method_11_code 115 = .ok (.ireturn, 1) := by decide +kernel
theorem d_EF_block_116 : decode prog_1_method_11_code 116 = .ok (.aload 7, 2) := by decide +kernel
theorem d_EF_block_118 : decode prog_1_method_11_code 118 = .ok (.iload_n 2, 1) := by decide +kernel
theorem d_EF_block_119 : decode prog_1_method_11_code 119 = .ok (.iload_n 3, 1) := by decide +kernel
theorem d_EF_block_120 : decode prog_1_method_11_code 120 = .ok (.iload 4, 2) := by decide +kernel
theorem d_EF_block_122 : decode prog_1_method_11_code 122 = .ok (.iload 5, 2) := by decide +kernel
theorem d_EF_block_124 : decode prog_1_method_11_code 124 = .ok (.invokevirtual 157, 3) := by decide +kernel
theorem d_EF_block_127 : decode prog_1_method_11_code 127 = .ok (.aload_n 0, 1) := by decide +kernel
theorem d_EF_block_128 : decode prog_1_method_11_code 128 = .ok (.getfield 24, 3) := by decide +kernel
theorem d_EF_block_131 : decode prog_1_method_11_code 131 = .ok (.aload 7, 2) := by decide +kernel
theorem d_EF_block_133 : decode prog_1_method_11_code 133 = .ok (.aload_n 0, 1) := by decide +kernel
theorem d_EF_block_134 : decode prog_1_method_11_code 134 = .ok (.getfield 31, 3) := by decide +kernel
theorem d_EF_block_137 : decode prog_1_method_11_code 137 = .ok (.invokevirtual 161, 3) := by decide +kernel
theorem d_EF_block_140 : decode prog_1_method_11_code 140 = .ok (.aload 7, 2) := by decide +kernel
theorem d_EF_block_142 : decode prog_1_method_11_code 142 = .ok (.getfield 125, 3) := by decide +kernel
theorem d_EF_block_145 : decode prog_1_method_11_code 145 = .ok (.ireturn, 1) := by decide +kernel
theorem d_EF_id_0 : decode prog_1_method_12_code 0 = .ok (.aload_n 0, 1) := by decide +kernel
theorem d_EF_id_1 : decode prog_1_method_12_code 1 = .ok (.getfield 31, 3) := by decide +kernel
theorem d_EF_id_4 : decode prog_1_method_12_code 4 = .ok (.iload_n 1, 1) := by decide +kernel
theorem d_EF_id_5 : decode prog_1_method_12_code 5 = .ok (.invokevirtual 87, 3) := by decide +kernel
theorem d_EF_id_8 : decode prog_1_method_12_code 8 = .ok (.astore_n 2, 1) := by decide +kernel
theorem d_EF_id_9 : decode prog_1_method_12_code 9 = .ok (.aload_n 2, 1) := by decide +kernel
theorem d_EF_id_10 : decode prog_1_method_12_code 10 = .ok (.ifnonnull 7, 3) := by decide +kernel
theorem d_EF_id_13 : decode prog_1_method_12_code 13 = .ok (.iconst (-1), 1) := by decide +kernel
theorem d_EF_id_14 : decode prog_1_method_12_code 14 = .ok (.goto 7, 3) := by decide +kernel
theorem d_EF_id_17 : decode prog_1_method_12_code 17 = .ok (.aload_n 2, 1) := by decide +kernel
theorem d_EF_id_18 : decode prog_1_method_12_code 18 = .ok (.getfield 165, 3) := by decide +kernel
theorem d_EF_id_21 : decode prog_1_method_12_code 21 = .ok (.ireturn, 1) := by decide +kernel
theorem d_EF_parent_0 : decode prog_1_method_13_code 0 = .ok (.aload_n 0, 1) := by decide +kernel
theorem d_EF_parent_1 : decode prog_1_method_13_code 1 = .ok (.getfield 31, 3) := by decide +kernel
theorem d_EF_parent_4 : decode prog_1_method_13_code 4 = .ok (.iload_n 1, 1) := by decide +kernel
theorem d_EF_parent_5 : decode prog_1_method_13_code 5 = .ok (.invokevirtual 87, 3) := by decide +kernel
theorem d_EF_parent_8 : decode prog_1_method_13_code 8 = .ok (.astore_n 2, 1) := by decide +kernel
theorem d_EF_parent_9 : decode prog_1_method_13_code 9 = .ok (.aload_n 2, 1) := by decide +kernel
theorem d_EF_parent_10 : decode prog_1_method_13_code 10 = .ok (.ifnull 10, 3) := by decide +kernel
theorem d_EF_parent_13 : decode prog_1_method_13_code 13 = .ok (.aload_n 2, 1) := by decide +kernel
theorem d_EF_parent_14 : decode prog_1_method_13_code 14 = .ok (.getfield 166, 3) := by decide +kernel
theorem d_EF_parent_17 : decode prog_1_method_13_code 17 = .ok (.ifnonnull 7, 3) := by decide +kernel
theorem d_EF_parent_20 : decode prog_1_method_13_code 20 = .ok (.iconst (-1), 1) := by decide +kernel
theorem d_EF_parent_21 : decode prog_1_method_13_code 21 = .ok (.goto 10, 3) := by decide +kernel
theorem d_EF_parent_24 : decode prog_1_method_13_code 24 = .ok (.aload_n 2, 1) := by decide +kernel
theorem d_EF_parent_25 : decode prog_1_method_13_code 25 = .ok (.getfield 166, 3) := by decide +kernel
theorem d_EF_parent_28 : decode prog_1_method_13_code 28 = .ok (.getfield 125, 3) := by decide +kernel
theorem d_EF_parent_31 : decode prog_1_method_13_code 31 = .ok (.ireturn, 1) := by decide +kernel
theorem d_EF_value_0 : decode prog_1_method_14_code 0 = .ok (.aload_n 0, 1) := by decide +kernel
theorem d_EF_value_1 : decode prog_1_method_14_code 1 = .ok (.getfield 31, 3) := by decide +kernel
theorem d_EF_value_4 : decode prog_1_method_14_code 4 = .ok (.iload_n 1, 1) := by decide +kernel
theorem d_EF_value_5 : decode prog_1_method_14_code 5 = .ok (.invokevirtual 87, 3) := by decide +kernel
theorem d_EF_value_8 : decode prog_1_method_14_code 8 = .ok (.astore_n 2, 1) := by decide +kernel
theorem d_EF_value_9 : decode prog_1_method_14_code 9 = .ok (.aload_n 2, 1) := by decide +kernel
theorem d_EF_value_10 : decode prog_1_method_14_code 10 = .ok (.ifnonnull 7, 3) := by decide +kernel
theorem d_EF_value_13 : decode prog_1_method_14_code 13 = .ok (.ldc2_w 170, 3) := by decide +kernel
theorem d_EF_value_16 : decode prog_1_method_14_code 16 = .ok (.lreturn, 1) := by decide +kernel
theorem d_EF_value_17 : decode prog_1_method_14_code 17 = .ok (.aload_n 2, 1) := by decide +kernel
theorem d_EF_value_18 : decode prog_1_method_14_code 18 = .ok (.getfield 128, 3) := by decide +kernel
theorem d_EF_value_21 : decode prog_1_method_14_code 21 = .ok (.getfield 116, 3) := by decide +kernel
theorem d_EF_value_24 : decode prog_1_method_14_code 24 = .ok (.ifCond .ne 15, 3) := by decide +kernel
theorem d_EF_value_27 : decode prog_1_method_14_code 27 = .ok (.aload_n 0, 1) := by decide +kernel
theorem d_EF_value_28 : decode prog_1_method_14_code 28 = .ok (.getfield 31, 3) := by decide +kernel
theorem d_EF_value_31 : decode prog_1_method_14_code 31 = .ok (.aload_n 2, 1) := by decide +kernel
theorem d_EF_value_32 : decode prog_1_method_14_code 32 = .ok (.invokevirtual 172, 3) := by decide +kernel
theorem d_EF_value_35 : decode prog_1_method_14_code 35 = .ok (.i2l, 1) := by decide +kernel
theorem d_EF_value_36 : decode prog_1_method_14_code 36 = .ok (.goto 7, 3) := by decide +kernel
theorem d_EF_value_39 : decode prog_1_method_14_code 39 = .ok (.aload_n 2, 1) := by decide +kernel
theorem d_EF_value_40 : decode prog_1_method_14_code 40 = .ok (.getfield 119, 3) := by decide +kernel
theorem d_EF_value_43 : decode prog_1_method_14_code 43 = .ok (.lreturn, 1) := by decide +kernel
theorem d_EF_part_0 : decode prog_1_method_15_code 0 = .ok (.aload_n 0, 1) := by decide +kernel
theorem d_EF_part_1 : decode prog_1_method_15_code 1 = .ok (.getfield 31, 3) := by decide +kernel
theorem d_EF_part_4 : decode prog_1_method_15_code 4 = .ok (.iload_n 1, 1) := by decide +kernel
theorem d_EF_part_5 : decode prog_1_method_15_code 5 = .ok (.invokevirtual 87, 3) := by decide +kernel
theorem d_EF_part_8 : decode prog_1_method_15_code 8 = .ok (.astore_n 3, 1) := by decide +kernel
theorem d_EF_part_9 : decode prog_1_method_15_code 9 = .ok (.aload_n 3, 1) := by decide +kernel
theorem d_EF_part_10 : decode prog_1_method_15_code 10 = .ok (.ifnull 7, 3) := by decide +kernel
theorem d_EF_part_13 : decode prog_1_method_15_code 13 = .ok (.iload_n 2, 1) := by decide +kernel
theorem d_EF_part_14 : decode prog_1_method_15_code 14 = .ok (.ifCond .ge 5, 3) := by decide +kernel
theorem d_EF_part_17 : decode prog_1_method_15_code 17 = .ok (.iconst (-1), 1) := by decide +kernel
theorem d_EF_part_18 : decode prog_1_method_15_code 18 = .ok (.ireturn, 1) := by decide +kernel
theorem d_EF_part_19 : decode prog_1_method_15_code 19 = .ok (.aload_n 3, 1) := by decide +kernel
theorem d_EF_part_20 : decode prog_1_method_15_code 20 = .ok (.getfield 128, 3) := by decide +kernel
theorem d_EF_part_23 : decode prog_1_method_15_code 23 = .ok (.getfield 116, 3) := by decide +kernel
theorem d_EF_part_26 : decode prog_1_method_15_code 26 = .ok (.tableswitch 84 0 6 #[42, 84, 52, 52, 84, 84, 58], 42) := by decide +kernel
theorem d_EF_part_68 : decode prog_1_method_15_code 68 = .ok (.aload_n 0, 1) := by decide +kernel
theorem d_EF_part_69 : decode prog_1_method_15_code 69 = .ok (.getfield 31, 3) := by decide +kernel
theorem d_EF_part_72 : decode prog_1_method_15_code 72 = .ok (.aload_n 3, 1) := by decide +kernel
theorem d_EF_part_73 : decode prog_1_method_15_code 73 = .ok (.iload_n 2, 1) := by decide +kernel
theorem d_EF_part_74 : decode prog_1_method_15_code 74 = .ok (.invokevirtual 176, 3) := by decide +kernel
theorem d_EF_part_77 : decode prog_1_method_15_code 77 = .ok (.ireturn, 1) := by decide +kernel
theorem d_EF_part_78 : decode prog_1_method_15_code 78 = .ok (.aload_n 3, 1) := by decide +kernel
theorem d_EF_part_79 : decode prog_1_method_15_code 79 = .ok (.iload_n 2, 1) := by decide +kernel
theorem d_EF_part_80 : decode prog_1_method_15_code 80 = .ok (.invokevirtual 180, 3) := by decide +kernel
theorem d_EF_part_83 : decode prog_1_method_15_code 83 = .ok (.ireturn, 1) := by decide +kernel
theorem d_EF_part_84 : decode prog_1_method_15_code 84 = .ok (.iload_n 2, 1) := by decide +kernel
theorem d_EF_part_85 : decode prog_1_method_15_code 85 = .ok (.aload_n 3, 1) := by decide +kernel
theorem d_EF_part_86 : decode prog_1_method_15_code 86 = .ok (.getfield 183, 3) := by decide +kernel
theorem d_EF_part_89 : decode prog_1_method_15_code 89 = .ok (.if_icmp .ge 19, 3) := by decide +kernel
theorem d_EF_part_92 : decode prog_1_method_15_code 92 = .ok (.aload_n 0, 1) := by decide +kernel
theorem d_EF_part_93 : decode prog_1_method_15_code 93 = .ok (.getfield 31, 3) := by decide +kernel
theorem d_EF_part_96 : decode prog_1_method_15_code 96 = .ok (.aload_n 3, 1) := by decide +kernel
theorem d_EF_part_97 : decode prog_1_method_15_code 97 = .ok (.getfield 186, 3) := by decide +kernel
theorem d_EF_part_100 : decode prog_1_method_15_code 100 = .ok (.iload_n 2, 1) := by decide +kernel
theorem d_EF_part_101 : decode prog_1_method_15_code 101 = .ok (.iadd, 1) := by decide +kernel
theorem d_EF_part_102 : decode prog_1_method_15_code 102 = .ok (.invokevirtual 189, 3) := by decide +kernel
theorem d_EF_part_105 : decode prog_1_method_15_code 105 = .ok (.goto 4, 3) := by decide +kernel
theorem d_EF_part_108 : decode prog_1_method_15_code 108 = .ok (.iconst (-1), 1) := by decide +kernel
theorem d_EF_part_109 : decode prog_1_method_15_code 109 = .ok (.ireturn, 1) := by decide +kernel
theorem d_EF_part_110 : decode prog_1_method_15_code 110 = .ok (.iconst (-1), 1) := by decide +kernel
theorem d_EF_part_111 : decode prog_1_method_15_code 111 = .ok (.ireturn, 1) := by decide +kernel
theorem d_EF_sample_0 : decode prog_1_method_16_code 0 = .ok (.aload_n 0, 1) := by decide +kernel
theorem d_EF_sample_1 : decode prog_1_method_16_code 1 = .ok (.getfield 31, 3) := by decide +kernel
theorem d_EF_sample_4 : decode prog_1_method_16_code 4 = .ok (.iload_n 1, 1) := by decide +kernel
theorem d_EF_sample_5 : decode prog_1_method_16_code 5 = .ok (.invokevirtual 87, 3) := by decide +kernel
theorem d_EF_sample_8 : decode prog_1_method_16_code 8 = .ok (.astore 4, 2) := by decide +kernel
theorem d_EF_sample_10 : decode prog_1_method_16_code 10 = .ok (.aload 4, 2) := by decide +kernel
theorem d_EF_sample_12 : decode prog_1_method_16_code 12 = .ok (.ifnull 32, 3) := by decide +kernel
theorem d_EF_sample_15 : decode prog_1_method_16_code 15 = .ok (.aload 4, 2) := by decide +kernel
theorem d_EF_sample_17 : decode prog_1_method_16_code 17 = .ok (.getfield 128, 3) := by decide +kernel
theorem d_EF_sample_20 : decode prog_1_method_16_code 20 = .ok (.getstatic 96, 3) := by decide +kernel
theorem d_EF_sample_23 : decode prog_1_method_16_code 23 = .ok (.if_acmp .ne 21, 3) := by decide +kernel
theorem d_EF_sample_26 : decode prog_1_method_16_code 26 = .ok (.iload_n 2, 1) := by decide +kernel
theorem d_EF_sample_27 : decode prog_1_method_16_code 27 = .ok (.ifCond .lt 17, 3) := by decide +kernel
theorem d_EF_sample_30 : decode prog_1_method_16_code 30 = .ok (.iload_n 3, 1) := by decide +kernel
theorem d_EF_sample_31 : decode prog_1_method_16_code 31 = .ok (.ifCond .lt 13, 3) := by decide +kernel
theorem d_EF_sample_34 : decode prog_1_method_16_code 34 = .ok (.iload_n 3, 1) := by decide +kernel
theorem d_EF_sample_35 : decode prog_1_method_16_code 35 = .ok (.aload 4, 2) := by decide +kernel
theorem d_EF_sample_37 : decode prog_1_method_16_code 37 = .ok (.iload_n 2, 1) := by decide +kernel
theorem d_EF_sample_38 : decode prog_1_method_16_code 38 = .ok (.invokevirtual 180, 3) := by decide +kernel
theorem d_EF_sample_41 : decode prog_1_method_16_code 41 = .ok (.if_icmp .lt 5, 3) := by decide +kernel
theorem d_EF_sample_44 : decode prog_1_method_16_code 44 = .ok (.iconst (-1), 1) := by decide +kernel
theorem d_EF_sample_45 : decode prog_1_method_16_code 45 = .ok (.ireturn, 1) := by decide +kernel
theorem d_EF_sample_46 : decode prog_1_method_16_code 46 = .ok (.aload 4, 2) := by decide +kernel
theorem d_EF_sample_48 : decode prog_1_method_16_code 48 = .ok (.getfield 186, 3) := by decide +kernel
theorem d_EF_sample_51 : decode prog_1_method_16_code 51 = .ok (.istore 5, 2) := by decide +kernel
theorem d_EF_sample_53 : decode prog_1_method_16_code 53 = .ok (.iconst 0, 1) := by decide +kernel
theorem d_EF_sample_54 : decode prog_1_method_16_code 54 = .ok (.istore 6, 2) := by decide +kernel
theorem d_EF_sample_56 : decode prog_1_method_16_code 56 = .ok (.iload 6, 2) := by decide +kernel
theorem d_EF_sample_58 : decode prog_1_method_16_code 58 = .ok (.iload_n 2, 1) := by decide +kernel
theorem d_EF_sample_59 : decode prog_1_method_16_code 59 = .ok (.if_icmp .ge 21, 3) := by decide +kernel
theorem d_EF_sample_62 : decode prog_1_method_16_code 62 = .ok (.iload 5, 2) := by decide +kernel
theorem d_EF_sample_64 : decode prog_1_method_16_code 64 = .ok (.aload 4, 2) := by decide +kernel
theorem d_EF_sample_66 : decode prog_1_method_16_code 66 = .ok (.iload 6, 2) := by decide +kernel
theorem d_EF_sample_68 : decode prog_1_method_16_code 68 = .ok (.invokevirtual 180, 3) := by decide +kernel
theorem d_EF_sample_71 : decode prog_1_method_16_code 71 = .ok (.iadd, 1) := by decide +kernel
theorem d_EF_sample_72 : decode prog_1_method_16_code 72 = .ok (.istore 5, 2) := by decide +kernel
theorem d_EF_sample_74 : decode prog_1_method_16_code 74 = .ok (.iinc 6 1, 3) := by decide +kernel
theorem d_EF_sample_77 : decode prog_1_method_16_code 77 = .ok (.goto (-21), 3) := by decide +kernel
theorem d_EF_sample_80 : decode prog_1_method_16_code 80 = .ok (.aload_n 0, 1) := by decide +kernel
theorem d_EF_sample_81 : decode prog_1_method_16_code 81 = .ok (.getfield 31, 3) := by decide +kernel
theorem d_EF_sample_84 : decode prog_1_method_16_code 84 = .ok (.iload 5, 2) := by decide +kernel
theorem d_EF_sample_86 : decode prog_1_method_16_code 86 = .ok (.iload_n 3, 1) := by decide +kernel
theorem d_EF_sample_87 : decode prog_1_method_16_code 87 = .ok (.iadd, 1) := by decide +kernel
theorem d_EF_sample_88 : decode prog_1_method_16_code 88 = .ok (.invokevirtual 189, 3) := by decide +kernel
theorem d_EF_sample_91 : decode prog_1_method_16_code 91 = .ok (.ireturn, 1) := by decide +kernel
theorem d_EF_detail_0 : decode prog_1_method_17_code 0 = .ok (.aload_n 0, 1) := by decide +kernel
theorem d_EF_detail_1 : decode prog_1_method_17_code 1 = .ok (.getfield 31, 3) := by decide +kernel
theorem d_EF_detail_4 : decode prog_1_method_17_code 4 = .ok (.iload_n 1, 1) := by decide +kernel
theorem d_EF_detail_5 : decode prog_1_method_17_code 5 = .ok (.invokevirtual 87, 3) := by decide +kernel
theorem d_EF_detail_8 : decode prog_1_method_17_code 8 = .ok (.astore_n 3, 1) := by decide +kernel
theorem d_EF_detail_9 : decode prog_1_method_17_code 9 = .ok (.aload_n 3, 1) := by decide +kernel
theorem d_EF_detail_10 : decode prog_1_method_17_code 10 = .ok (.ifnull 13, 3) := by decide +kernel
theorem d_EF_detail_13 : decode prog_1_method_17_code 13 = .ok (.aload_n 3, 1) := by decide +kernel
theorem d_EF_detail_14 : decode prog_1_method_17_code 14 = .ok (.getfield 128, 3) := by decide +kernel
theorem d_EF_detail_17 : decode prog_1_method_17_code 17 = .ok (.getstatic 96, 3) := by decide +kernel
theorem d_EF_detail_20 : decode prog_1_method_17_code 20 = .ok (.if_acmp .eq 6, 3) := by decide +kernel
theorem d_EF_detail_23 : decode prog_1_method_17_code 23 = .ok (.ldc 192, 2) := by decide +kernel
theorem d_EF_detail_25 : decode prog_1_method_17_code 25 = .ok (.ireturn, 1) := by decide +kernel
theorem d_EF_detail_26 : decode prog_1_method_17_code 26 = .ok (.iload_n 2, 1) := by decide +kernel
theorem d_EF_detail_27 : decode prog_1_method_17_code 27 = .ok (.tableswitch 57 0 3 #[29, 34, 39, 52], 29) := by decide +kernel
theorem d_EF_detail_56 : decode prog_1_method_17_code 56 = .ok (.aload_n 3, 1) := by decide +kernel
theorem d_EF_detail_57 : decode prog_1_method_17_code 57 = .ok (.getfield 193, 3) := by decide +kernel
theorem d_EF_detail_60 : decode prog_1_method_17_code 60 = .ok (.ireturn, 1) := by decide +kernel
theorem d_EF_detail_61 : decode prog_1_method_17_code 61 = .ok (.aload_n 3, 1) := by decide +kernel
theorem d_EF_detail_62 : decode prog_1_method_17_code 62 = .ok (.getfield 196, 3) := by decide +kernel
theorem d_EF_detail_65 : decode prog_1_method_17_code 65 = .ok (.ireturn, 1) := by decide +kernel
theorem d_EF_detail_66 : decode prog_1_method_17_code 66 = .ok (.aload_n 3, 1) := by decide +kernel
theorem d_EF_detail_67 : decode prog_1_method_17_code 67 = .ok (.getfield 199, 3) := by decide +kernel
theorem d_EF_detail_70 : decode prog_1_method_17_code 70 = .ok (.ifCond .eq 7, 3) := by decide +kernel
theorem d_EF_detail_73 : decode prog_1_method_17_code 73 = .ok (.iconst 1, 1) := by decide +kernel
theorem d_EF_detail_74 : decode prog_1_method_17_code 74 = .ok (.goto 4, 3) := by decide +kernel
theorem d_EF_detail_77 : decode prog_1_method_17_code 77 = .ok (.iconst 0, 1) := by decide +kernel
theorem d_EF_detail_78 : decode prog_1_method_17_code 78 = .ok (.ireturn, 1) := by decide +kernel
theorem d_EF_detail_79 : decode prog_1_method_17_code 79 = .ok (.aload_n 3, 1) := by decide +kernel
theorem d_EF_detail_80 : decode prog_1_method_17_code 80 = .ok (.getfield 203, 3) := by decide +kernel
theorem d_EF_detail_83 : decode prog_1_method_17_code 83 = .ok (.ireturn, 1) := by decide +kernel
theorem d_EF_detail_84 : decode prog_1_method_17_code 84 = .ok (.ldc 192, 2) := by decide +kernel
theorem d_EF_detail_86 : decode prog_1_method_17_code 86 = .ok (.ireturn, 1) := by decide +kernel
theorem d_EF_write_0 : decode prog_1_method_18_code 0 = .ok (.aload_n 0, 1) := by decide +kernel
theorem d_EF_write_1 : decode prog_1_method_18_code 1 = .ok (.getfield 49, 3) := by decide +kernel
theorem d_EF_write_4 : decode prog_1_method_18_code 4 = .ok (.iload_n 1, 1) := by decide +kernel
theorem d_EF_write_5 : decode prog_1_method_18_code 5 = .ok (.invokevirtual 206, 3) := by decide +kernel
theorem d_EF_write_8 : decode prog_1_method_18_code 8 = .ok (.sipush 640, 3) := by decide +kernel
theorem d_EF_write_11 : decode prog_1_method_18_code 11 = .ok (.if_icmp .le 8, 3) := by decide +kernel
theorem d_EF_write_14 : decode prog_1_method_18_code 14 = .ok (.bipush (-8), 2) := by decide +kernel
theorem d_EF_write_16 : decode prog_1_method_18_code 16 = .ok (.goto 11, 3) := by decide +kernel
theorem d_EF_write_19 : decode prog_1_method_18_code 19 = .ok (.aload_n 0, 1) := by decide +kernel
theorem d_EF_write_20 : decode prog_1_method_18_code 20 = .ok (.getfield 49, 3) := by decide +kernel
theorem d_EF_write_23 : decode prog_1_method_18_code 23 = .ok (.iload_n 1, 1) := by decide +kernel
theorem d_EF_write_24 : decode prog_1_method_18_code 24 = .ok (.invokevirtual 210, 3) := by decide +kernel
theorem d_EF_write_27 : decode prog_1_method_18_code 27 = .ok (.ireturn, 1) := by decide +kernel
theorem d_EF_index_0 : decode prog_1_method_19_code 0 = .ok (.aload_n 0, 1) := by decide +kernel
theorem d_EF_index_1 : decode prog_1_method_19_code 1 = .ok (.iload_n 1, 1) := by decide +kernel
theorem d_EF_index_2 : decode prog_1_method_19_code 2 = .ok (.invokevirtual 213, 3) := by decide +kernel
theorem d_EF_index_5 : decode prog_1_method_19_code 5 = .ok (.astore_n 2, 1) := by decide +kernel
theorem d_EF_index_6 : decode prog_1_method_19_code 6 = .ok (.aload_n 2, 1) := by decide +kernel
theorem d_EF_index_7 : decode prog_1_method_19_code 7 = .ok (.ifnonnull 7, 3) := by decide +kernel
theorem d_EF_index_10 : decode prog_1_method_19_code 10 = .ok (.iconst (-1), 1) := by decide +kernel
theorem d_EF_index_11 : decode prog_1_method_19_code 11 = .ok (.goto 11, 3) := by decide +kernel
theorem d_EF_index_14 : decode prog_1_method_19_code 14 = .ok (.aload_n 0, 1) := by decide +kernel
theorem d_EF_index_15 : decode prog_1_method_19_code 15 = .ok (.getfield 58, 3) := by decide +kernel
theorem d_EF_index_18 : decode prog_1_method_19_code 18 = .ok (.aload_n 2, 1) := by decide +kernel
theorem d_EF_index_19 : decode prog_1_method_19_code 19 = .ok (.invokevirtual 216, 3) := by decide +kernel
theorem d_EF_index_22 : decode prog_1_method_19_code 22 = .ok (.ireturn, 1) := by decide +kernel
theorem d_EF_seek_0 : decode prog_1_method_20_code 0 = .ok (.aload_n 0, 1) := by decide +kernel
theorem d_EF_seek_1 : decode prog_1_method_20_code 1 = .ok (.iload_n 1, 1) := by decide +kernel
theorem d_EF_seek_2 : decode prog_1_method_20_code 2 = .ok (.invokevirtual 213, 3) := by decide +kernel
theorem d_EF_seek_5 : decode prog_1_method_20_code 5 = .ok (.astore 5, 2) := by decide +kernel
theorem d_EF_seek_7 : decode prog_1_method_20_code 7 = .ok (.aload 5, 2) := by decide +kernel
theorem d_EF_seek_9 : decode prog_1_method_20_code 9 = .ok (.ifnonnull 7, 3) := by decide +kernel
theorem d_EF_seek_12 : decode prog_1_method_20_code 12 = .ok (.iconst (-1), 1) := by decide +kernel
theorem d_EF_seek_13 : decode prog_1_method_20_code 13 = .ok (.goto 14, 3) := by decide +kernel
theorem d_EF_seek_16 : decode prog_1_method_20_code 16 = .ok (.aload_n 0, 1) := by decide +kernel
theorem d_EF_seek_17 : decode prog_1_method_20_code 17 = .ok (.getfield 58, 3) := by decide +kernel
theorem d_EF_seek_20 : decode prog_1_method_20_code 20 = .ok (.aload 5, 2) := by decide +kernel
theorem d_EF_seek_22 : decode prog_1_method_20_code 22 = .ok (.iload_n 2, 1) := by decide +kernel
theorem d_EF_seek_23 : decode prog_1_method_20_code 23 = .ok (.lload_n 3, 1) := by decide +kernel
theorem d_EF_seek_24 : decode prog_1_method_20_code 24 = .ok (.invokevirtual 219, 3) := by decide +kernel
theorem d_EF_seek_27 : decode prog_1_method_20_code 27 = .ok (.ireturn, 1) := by decide +kernel
theorem d_EF_jump_0 : decode prog_1_method_21_code 0 = .ok (.aload_n 0, 1) := by decide +kernel
theorem d_EF_jump_1 : decode prog_1_method_21_code 1 = .ok (.iload_n 1, 1) := by decide +kernel
theorem d_EF_jump_2 : decode prog_1_method_21_code 2 = .ok (.invokevirtual 213, 3) := by decide +kernel
theorem d_EF_jump_5 : decode prog_1_method_21_code 5 = .ok (.astore 5, 2) := by decide +kernel
theorem d_EF_jump_7 : decode prog_1_method_21_code 7 = .ok (.aload 5, 2) := by decide +kernel
theorem d_EF_jump_9 : decode prog_1_method_21_code 9 = .ok (.ifnonnull 7, 3) := by decide +kernel
theorem d_EF_jump_12 : decode prog_1_method_21_code 12 = .ok (.iconst (-1), 1) := by decide +kernel
theorem d_EF_jump_13 : decode prog_1_method_21_code 13 = .ok (.goto 14, 3) := by decide +kernel
theorem d_EF_jump_16 : decode prog_1_method_21_code 16 = .ok (.aload_n 0, 1) := by decide +kernel
theorem d_EF_jump_17 : decode prog_1_method_21_code 17 = .ok (.getfield 58, 3) := by decide +kernel
theorem d_EF_jump_20 : decode prog_1_method_21_code 20 = .ok (.aload 5, 2) := by decide +kernel
theorem d_EF_jump_22 : decode prog_1_method_21_code 22 = .ok (.iload_n 2, 1) := by decide +kernel
theorem d_EF_jump_23 : decode prog_1_method_21_code 23 = .ok (.lload_n 3, 1) := by decide +kernel
theorem d_EF_jump_24 : decode prog_1_method_21_code 24 = .ok (.invokevirtual 223, 3) := by decide +kernel
theorem d_EF_jump_27 : decode prog_1_method_21_code 27 = .ok (.ireturn, 1) := by decide +kernel
theorem d_EF_segmentAt_0 : decode prog_1_method_22_code 0 = .ok (.aload_n 0, 1) := by decide +kernel
theorem d_EF_segmentAt_1 : decode prog_1_method_22_code 1 = .ok (.getfield 31, 3) := by decide +kernel
theorem d_EF_segmentAt_4 : decode prog_1_method_22_code 4 = .ok (.iload_n 1, 1) := by decide +kernel
theorem d_EF_segmentAt_5 : decode prog_1_method_22_code 5 = .ok (.invokevirtual 87, 3) := by decide +kernel
theorem d_EF_segmentAt_8 : decode prog_1_method_22_code 8 = .ok (.astore_n 2, 1) := by decide +kernel
theorem d_EF_segmentAt_9 : decode prog_1_method_22_code 9 = .ok (.aload_n 2, 1) := by decide +kernel
theorem d_EF_segmentAt_10 : decode prog_1_method_22_code 10 = .ok (.ifnull 17, 3) := by decide +kernel
theorem d_EF_segmentAt_13 : decode prog_1_method_22_code 13 = .ok (.aload_n 2, 1) := by decide +kernel
theorem d_EF_segmentAt_14 : decode prog_1_method_22_code 14 = .ok (.getfield 128, 3) := by decide +kernel
theorem d_EF_segmentAt_17 : decode prog_1_method_22_code 17 = .ok (.getstatic 226, 3) := by decide +kernel
theorem d_EF_segmentAt_20 : decode prog_1_method_22_code 20 = .ok (.if_acmp .ne 7, 3) := by decide +kernel
theorem d_EF_segmentAt_23 : decode prog_1_method_22_code 23 = .ok (.aload_n 2, 1) := by decide +kernel
theorem d_EF_segmentAt_24 : decode prog_1_method_22_code 24 = .ok (.goto 4, 3) := by decide +kernel
theorem d_EF_segmentAt_27 : decode prog_1_method_22_code 27 = .ok (.aconst_null, 1) := by decide +kernel
theorem d_EF_segmentAt_28 : decode prog_1_method_22_code 28 = .ok (.areturn, 1) := by decide +kernel
theorem d_EF_isLetter_0 : decode prog_1_method_23_code 0 = .ok (.iload_n 0, 1) := by decide +kernel
theorem d_EF_isLetter_1 : decode prog_1_method_23_code 1 = .ok (.bipush 32, 2) := by decide +kernel
theorem d_EF_isLetter_3 : decode prog_1_method_23_code 3 = .ok (.if_icmp .lt 13, 3) := by decide +kernel
theorem d_EF_isLetter_6 : decode prog_1_method_23_code 6 = .ok (.iload_n 0, 1) := by decide +kernel
theorem d_EF_isLetter_7 : decode prog_1_method_23_code 7 = .ok (.bipush 126, 2) := by decide +kernel
theorem d_EF_isLetter_9 : decode prog_1_method_23_code 9 = .ok (.if_icmp .gt 7, 3) := by decide +kernel
theorem d_EF_isLetter_12 : decode prog_1_method_23_code 12 = .ok (.iconst 1, 1) := by decide +kernel
theorem d_EF_isLetter_13 : decode prog_1_method_23_code 13 = .ok (.goto 4, 3) := by decide +kernel
theorem d_EF_isLetter_16 : decode prog_1_method_23_code 16 = .ok (.iconst 0, 1) := by decide +kernel
theorem d_EF_isLetter_17 : decode prog_1_method_23_code 17 = .ok (.ireturn, 1) := by decide +kernel
theorem d_EF_vintLengthByFirst_0 : decode prog_1_method_24_code 0 = .ok (.iconst 1, 1) := by decide +kernel
theorem d_EF_vintLengthByFirst_1 : decode prog_1_method_24_code 1 = .ok (.istore_n 1, 1) := by decide +kernel
theorem d_EF_vintLengthByFirst_2 : decode prog_1_method_24_code 2 = .ok (.iload_n 1, 1) := by decide +kernel
theorem d_EF_vintLengthByFirst_3 : decode prog_1_method_24_code 3 = .ok (.bipush 9, 2) := by decide +kernel
theorem d_EF_vintLengthByFirst_5 : decode prog_1_method_24_code 5 = .ok (.if_icmp .ge 18, 3) := by decide +kernel
theorem d_EF_vintLengthByFirst_8 : decode prog_1_method_24_code 8 = .ok (.iload_n 0, 1) := by decide +kernel
theorem d_EF_vintLengthByFirst_9 : decode prog_1_method_24_code 9 = .ok (.bipush 8, 2) := by decide +kernel
theorem d_EF_vintLengthByFirst_11 : decode prog_1_method_24_code 11 = .ok (.iload_n 1, 1) := by decide +kernel
theorem d_EF_vintLengthByFirst_12 : decode prog_1_method_24_code 12 = .ok (.isub, 1) := by decide +kernel
theorem d_EF_vintLengthByFirst_13 : decode prog_1_method_24_code 13 = .ok (.ishr, 1) := by decide +kernel
theorem d_EF_vintLengthByFirst_14 : decode prog_1_method_24_code 14 = .ok (.ifCond .ne 9, 3) := by decide +kernel
theorem d_EF_vintLengthByFirst_17 : decode prog_1_method_24_code 17 = .ok (.iinc 1 1, 3) := by decide +kernel
theorem d_EF_vintLengthByFirst_20 : decode prog_1_method_24_code 20 = .ok (.goto (-18), 3) := by decide +kernel
theorem d_EF_vintLengthByFirst_23 : decode prog_1_method_24_code 23 = .ok (.iload_n 1, 1) := by decide +kernel
theorem d_EF_vintLengthByFirst_24 : decode prog_1_method_24_code 24 = .ok (.ireturn, 1) := by decide +kernel
theorem d_EF_allOnes_0 : decode prog_1_method_25_code 0 = .ok (.lconst 1, 1) := by decide +kernel
theorem d_EF_allOnes_1 : decode prog_1_method_25_code 1 = .ok (.bipush 7, 2) := by decide +kernel
theorem d_EF_allOnes_3 : decode prog_1_method_25_code 3 = .ok (.iload_n 0, 1) := by decide +kernel
theorem d_EF_allOnes_4 : decode prog_1_method_25_code 4 = .ok (.imul, 1) := by decide +kernel
theorem d_EF_allOnes_5 : decode prog_1_method_25_code 5 = .ok (.lshl, 1) := by decide +kernel
theorem d_EF_allOnes_6 : decode prog_1_method_25_code 6 = .ok (.lconst 1, 1) := by decide +kernel
theorem d_EF_allOnes_7 : decode prog_1_method_25_code 7 = .ok (.lsub, 1) := by decide +kernel
theorem d_EF_allOnes_8 : decode prog_1_method_25_code 8 = .ok (.lreturn, 1) := by decide +kernel
theorem d_EF_surplus_0 : decode prog_1_method_26_code 0 = .ok (.lconst 1, 1) := by decide +kernel
theorem d_EF_surplus_1 : decode prog_1_method_26_code 1 = .ok (.bipush 7, 2) := by decide +kernel
theorem d_EF_surplus_3 : decode prog_1_method_26_code 3 = .ok (.iload_n 0, 1) := by decide +kernel
theorem d_EF_surplus_4 : decode prog_1_method_26_code 4 = .ok (.imul, 1) := by decide +kernel
theorem d_EF_surplus_5 : decode prog_1_method_26_code 5 = .ok (.iconst 1, 1) := by decide +kernel
theorem d_EF_surplus_6 : decode prog_1_method_26_code 6 = .ok (.isub, 1) := by decide +kernel
theorem d_EF_surplus_7 : decode prog_1_method_26_code 7 = .ok (.lshl, 1) := by decide +kernel
theorem d_EF_surplus_8 : decode prog_1_method_26_code 8 = .ok (.lconst 1, 1) := by decide +kernel
theorem d_EF_surplus_9 : decode prog_1_method_26_code 9 = .ok (.lsub, 1) := by decide +kernel
theorem d_EF_surplus_10 : decode prog_1_method_26_code 10 = .ok (.lreturn, 1) := by decide +kernel
theorem d_EF_shortestVintLength_0 : decode prog_1_method_27_code 0 = .ok (.iconst 1, 1) := by decide +kernel
theorem d_EF_shortestVintLength_1 : decode prog_1_method_27_code 1 = .ok (.istore_n 2, 1) := by decide +kernel
theorem d_EF_shortestVintLength_2 : decode prog_1_method_27_code 2 = .ok (.iload_n 2, 1) := by decide +kernel
theorem d_EF_shortestVintLength_3 : decode prog_1_method_27_code 3 = .ok (.bipush 8, 2) := by decide +kernel
theorem d_EF_shortestVintLength_5 : decode prog_1_method_27_code 5 = .ok (.if_icmp .ge 18, 3) := by decide +kernel
theorem d_EF_shortestVintLength_8 : decode prog_1_method_27_code 8 = .ok (.lload_n 0, 1) := by decide +kernel
theorem d_EF_shortestVintLength_9 : decode prog_1_method_27_code 9 = .ok (.iload_n 2, 1) := by decide +kernel
theorem d_EF_shortestVintLength_10 : decode prog_1_method_27_code 10 = .ok (.invokestatic 229, 3) := by decide +kernel
theorem d_EF_shortestVintLength_13 : decode prog_1_method_27_code 13 = .ok (.lcmp, 1) := by decide +kernel
theorem d_EF_shortestVintLength_14 : decode prog_1_method_27_code 14 = .ok (.ifCond .lt 9, 3) := by decide +kernel
theorem d_EF_shortestVintLength_17 : decode prog_1_method_27_code 17 = .ok (.iinc 2 1, 3) := by decide +kernel
theorem d_EF_shortestVintLength_20 : decode prog_1_method_27_code 20 = .ok (.goto (-18), 3) := by decide +kernel
theorem d_EF_shortestVintLength_23 : decode prog_1_method_27_code 23 = .ok (.iload_n 2, 1) := by decide +kernel
theorem d_EF_shortestVintLength_24 : decode prog_1_method_27_code 24 = .ok (.ireturn, 1) := by decide +kernel
theorem d_Ro_init_0 : decode prog_6_method_1_code 0 = .ok (.aload_n 0, 1) := by decide +kernel
theorem d_Ro_init_1 : decode prog_6_method_1_code 1 = .ok (.invokespecial 3, 3) := by decide +kernel
theorem d_Ro_init_4 : decode prog_6_method_1_code 4 = .ok (.aload_n 0, 1) := by decide +kernel
theorem d_Ro_init_5 : decode prog_6_method_1_code 5 = .ok (.iload_n 1, 1) := by decide +kernel
theorem d_Ro_init_6 : decode prog_6_method_1_code 6 = .ok (.ifCond .ge 7, 3) := by decide +kernel
theorem d_Ro_init_9 : decode prog_6_method_1_code 9 = .ok (.iconst 0, 1) := by decide +kernel
theorem d_Ro_init_10 : decode prog_6_method_1_code 10 = .ok (.goto 4, 3) := by decide +kernel
theorem d_Ro_init_13 : decode prog_6_method_1_code 13 = .ok (.iload_n 1, 1) := by decide +kernel
theorem d_Ro_init_14 : decode prog_6_method_1_code 14 = .ok (.newarray .int, 2) := by decide +kernel
theorem d_Ro_init_16 : decode prog_6_method_1_code 16 = .ok (.putfield 9, 3) := by decide +kernel
theorem d_Ro_init_19 : decode prog_6_method_1_code 19 = .ok (.return_, 1) := by decide +kernel
theorem d_Ro_at_0 : decode prog_6_method_2_code 0 = .ok (.iload_n 1, 1) := by decide +kernel
theorem d_Ro_at_1 : decode prog_6_method_2_code 1 = .ok (.ifCond .lt 29, 3) := by decide +kernel
theorem d_Ro_at_4 : decode prog_6_method_2_code 4 = .ok (.iload_n 1, 1) := by decide +kernel
theorem d_Ro_at_5 : decode prog_6_method_2_code 5 = .ok (.aload_n 0, 1) := by decide +kernel
theorem d_Ro_at_6 : decode prog_6_method_2_code 6 = .ok (.getfield 15, 3) := by decide +kernel
theorem d_Ro_at_9 : decode prog_6_method_2_code 9 = .ok (.if_icmp .ge 21, 3) := by decide +kernel
theorem d_Ro_at_12 : decode prog_6_method_2_code 12 = .ok (.iload_n 1, 1) := by decide +kernel
theorem d_Ro_at_13 : decode prog_6_method_2_code 13 = .ok (.aload_n 0, 1) := by decide +kernel
theorem d_Ro_at_14 : decode prog_6_method_2_code 14 = .ok (.getfield 9, 3) := by decide +kernel
theorem d_Ro_at_17 : decode prog_6_method_2_code 17 = .ok (.arraylength, 1) := by decide +kernel
theorem d_Ro_at_18 : decode prog_6_method_2_code 18 = .ok (.if_icmp .ge 12, 3) := by decide +kernel
theorem d_Ro_at_21 : decode prog_6_method_2_code 21 = .ok (.aload_n 0, 1) := by decide +kernel
theorem d_Ro_at_22 : decode prog_6_method_2_code 22 = .ok (.getfield 9, 3) := by decide +kernel
theorem d_Ro_at_25 : decode prog_6_method_2_code 25 = .ok (.iload_n 1, 1) := by decide +kernel
theorem d_Ro_at_26 : decode prog_6_method_2_code 26 = .ok (.iaload, 1) := by decide +kernel
theorem d_Ro_at_27 : decode prog_6_method_2_code 27 = .ok (.goto 4, 3) := by decide +kernel
theorem d_Ro_at_30 : decode prog_6_method_2_code 30 = .ok (.iconst (-1), 1) := by decide +kernel
theorem d_Ro_at_31 : decode prog_6_method_2_code 31 = .ok (.ireturn, 1) := by decide +kernel
theorem d_Ro_change_0 : decode prog_6_method_3_code 0 = .ok (.iload_n 1, 1) := by decide +kernel
theorem d_Ro_change_1 : decode prog_6_method_3_code 1 = .ok (.ifCond .lt 31, 3) := by decide +kernel
theorem d_Ro_change_4 : decode prog_6_method_3_code 4 = .ok (.iload_n 1, 1) := by decide +kernel
theorem d_Ro_change_5 : decode prog_6_method_3_code 5 = .ok (.aload_n 0, 1) := by decide +kernel
theorem d_Ro_change_6 : decode prog_6_method_3_code 6 = .ok (.getfield 15, 3) := by decide +kernel
theorem d_Ro_change_9 : decode prog_6_method_3_code 9 = .ok (.if_icmp .ge 23, 3) := by decide +kernel
theorem d_Ro_change_12 : decode prog_6_method_3_code 12 = .ok (.iload_n 1, 1) := by decide +kernel
theorem d_Ro_change_13 : decode prog_6_method_3_code 13 = .ok (.aload_n 0, 1) := by decide +kernel
theorem d_Ro_change_14 : decode prog_6_method_3_code 14 = .ok (.getfield 9, 3) := by decide +kernel
theorem d_Ro_change_17 : decode prog_6_method_3_code 17 = .ok (.arraylength, 1) := by decide +kernel
theorem d_Ro_change_18 : decode prog_6_method_3_code 18 = .ok (.if_icmp .ge 14, 3) := by decide +kernel
theorem d_Ro_change_21 : decode prog_6_method_3_code 21 = .ok (.aload_n 0, 1) := by decide +kernel
theorem d_Ro_change_22 : decode prog_6_method_3_code 22 = .ok (.getfield 9, 3) := by decide +kernel
theorem d_Ro_change_25 : decode prog_6_method_3_code 25 = .ok (.iload_n 1, 1) := by decide +kernel
theorem d_Ro_change_26 : decode prog_6_method_3_code 26 = .ok (.iload_n 2, 1) := by decide +kernel
theorem d_Ro_change_27 : decode prog_6_method_3_code 27 = .ok (.sipush 255, 3) := by decide +kernel
theorem d_Ro_change_30 : decode prog_6_method_3_code 30 = .ok (.iand, 1) := by decide +kernel
theorem d_Ro_change_31 : decode prog_6_method_3_code 31 = .ok (.iastore, 1) := by decide +kernel
theorem d_Ro_change_32 : decode prog_6_method_3_code 32 = .ok (.return_, 1) := by decide +kernel
theorem d_Ro_put_0 : decode prog_6_method_4_code 0 = .ok (.aload_n 0, 1) := by decide +kernel
theorem d_Ro_put_1 : decode prog_6_method_4_code 1 = .ok (.getfield 15, 3) := by decide +kernel
theorem d_Ro_put_4 : decode prog_6_method_4_code 4 = .ok (.aload_n 0, 1) := by decide +kernel
theorem d_Ro_put_5 : decode prog_6_method_4_code 5 = .ok (.getfield 9, 3) := by decide +kernel
theorem d_Ro_put_8 : decode prog_6_method_4_code 8 = .ok (.arraylength, 1) := by decide +kernel
theorem d_Ro_put_9 : decode prog_6_method_4_code 9 = .ok (.if_icmp .ge 17, 3) := by decide +kernel
theorem d_Ro_put_12 : decode prog_6_method_4_code 12 = .ok (.aload_n 0, 1) := by decide +kernel
theorem d_Ro_put_13 : decode prog_6_method_4_code 13 = .ok (.getfield 9, 3) := by decide +kernel
theorem d_Ro_put_16 : decode prog_6_method_4_code 16 = .ok (.aload_n 0, 1) := by decide +kernel
theorem d_Ro_put_17 : decode prog_6_method_4_code 17 = .ok (.getfield 15, 3) := by decide +kernel
theorem d_Ro_put_20 : decode prog_6_method_4_code 20 = .ok (.iload_n 1, 1) := by decide +kernel
theorem d_Ro_put_21 : decode prog_6_method_4_code 21 = .ok (.sipush 255, 3) := by decide +kernel
theorem d_Ro_put_24 : decode prog_6_method_4_code 24 = .ok (.iand, 1) := by decide +kernel
theorem d_Ro_put_25 : decode prog_6_method_4_code 25 = .ok (.iastore, 1) := by decide +kernel
theorem d_Ro_put_26 : decode prog_6_method_4_code 26 = .ok (.aload_n 0, 1) := by decide +kernel
theorem d_Ro_put_27 : decode prog_6_method_4_code 27 = .ok (.dup, 1) := by decide +kernel
theorem d_Ro_put_28 : decode prog_6_method_4_code 28 = .ok (.getfield 15, 3) := by decide +kernel
theorem d_Ro_put_31 : decode prog_6_method_4_code 31 = .ok (.iconst 1, 1) := by decide +kernel
theorem d_Ro_put_32 : decode prog_6_method_4_code 32 = .ok (.iadd, 1) := by decide +kernel
theorem d_Ro_put_33 : decode prog_6_method_4_code 33 = .ok (.putfield 15, 3) := by decide +kernel
theorem d_Ro_put_36 : decode prog_6_method_4_code 36 = .ok (.return_, 1) := by decide +kernel
theorem d_Ro_putNumber_0 : decode prog_6_method_5_code 0 = .ok (.iload_n 3, 1) := by decide +kernel
theorem d_Ro_putNumber_1 : decode prog_6_method_5_code 1 = .ok (.iconst 1, 1) := by decide +kernel
theorem d_Ro_putNumber_2 : decode prog_6_method_5_code 2 = .ok (.isub, 1) := by decide +kernel
theorem d_Ro_putNumber_3 : decode prog_6_method_5_code 3 = .ok (.istore 4, 2) := by decide +kernel
theorem d_Ro_putNumber_5 : decode prog_6_method_5_code 5 = .ok (.iload 4, 2) := by decide +kernel
theorem d_Ro_putNumber_7 : decode prog_6_method_5_code 7 = .ok (.ifCond .lt 21, 3) := by decide +kernel
theorem d_Ro_putNumber_10 : decode prog_6_method_5_code 10 = .ok (.aload_n 0, 1) := by decide +kernel
theorem d_Ro_putNumber_11 : decode prog_6_method_5_code 11 = .ok (.lload_n 1, 1) := by decide +kernel
theorem d_Ro_putNumber_12 : decode prog_6_method_5_code 12 = .ok (.bipush 8, 2) := by decide +kernel
theorem d_Ro_putNumber_14 : decode prog_6_method_5_code 14 = .ok (.iload 4, 2) := by decide +kernel
theorem d_Ro_putNumber_16 : decode prog_6_method_5_code 16 = .ok (.imul, 1) := by decide +kernel
theorem d_Ro_putNumber_17 : decode prog_6_method_5_code 17 = .ok (.lushr, 1) := by decide +kernel
theorem d_Ro_putNumber_18 : decode prog_6_method_5_code 18 = .ok (.l2i, 1) := by decide +kernel
theorem d_Ro_putNumber_19 : decode prog_6_method_5_code 19 = .ok (.invokevirtual 19, 3) := by decide +kernel
theorem d_Ro_putNumber_22 : decode prog_6_method_5_code 22 = .ok (.iinc 4 (-1), 3) := by decide +kernel
theorem d_Ro_putNumber_25 : decode prog_6_method_5_code 25 = .ok (.goto (-20), 3) := by decide +kernel
theorem d_Ro_putNumber_28 : decode prog_6_method_5_code 28 = .ok (.return_, 1) := by decide +kernel
theorem d_Ro_putVint_0 : decode prog_6_method_6_code 0 = .ok (.aload_n 0, 1) := by decide +kernel
theorem d_Ro_putVint_1 : decode prog_6_method_6_code 1 = .ok (.iload_n 3, 1) := by decide +kernel
theorem d_Ro_putVint_2 : decode prog_6_method_6_code 2 = .ok (.invokestatic 23, 3) := by decide +kernel
theorem d_Ro_putVint_5 : decode prog_6_method_6_code 5 = .ok (.lconst 1, 1) := by decide +kernel
theorem d_Ro_putVint_6 : decode prog_6_method_6_code 6 = .ok (.ladd, 1) := by decide +kernel
theorem d_Ro_putVint_7 : decode prog_6_method_6_code 7 = .ok (.lload_n 1, 1) := by decide +kernel
theorem d_Ro_putVint_8 : decode prog_6_method_6_code 8 = .ok (.lor, 1) := by decide +kernel
theorem d_Ro_putVint_9 : decode prog_6_method_6_code 9 = .ok (.iload_n 3, 1) := by decide +kernel
theorem d_Ro_putVint_10 : decode prog_6_method_6_code 10 = .ok (.invokevirtual 27, 3) := by decide +kernel
theorem d_Ro_putVint_13 : decode prog_6_method_6_code 13 = .ok (.return_, 1) := by decide +kernel
theorem d_Ro_sum_0 : decode prog_6_method_7_code 0 = .ok (.iconst (-1), 1) := by decide +kernel
theorem d_Ro_sum_1 : decode prog_6_method_7_code 1 = .ok (.istore_n 3, 1) := by decide +kernel
theorem d_Ro_sum_2 : decode prog_6_method_7_code 2 = .ok (.iload_n 1, 1) := by decide +kernel
theorem d_Ro_sum_3 : decode prog_6_method_7_code 3 = .ok (.istore 4, 2) := by decide +kernel
theorem d_Ro_sum_5 : decode prog_6_method_7_code 5 = .ok (.iload 4, 2) := by decide +kernel
theorem d_Ro_sum_7 : decode prog_6_method_7_code 7 = .ok (.iload_n 2, 1) := by decide +kernel
theorem d_Ro_sum_8 : decode prog_6_method_7_code 8 = .ok (.if_icmp .ge 57, 3) := by decide +kernel
theorem d_Ro_sum_11 : decode prog_6_method_7_code 11 = .ok (.iload_n 3, 1) := by decide +kernel
theorem d_Ro_sum_12 : decode prog_6_method_7_code 12 = .ok (.aload_n 0, 1) := by decide +kernel
theorem d_Ro_sum_13 : decode prog_6_method_7_code 13 = .ok (.iload 4, 2) := by decide +kernel
theorem d_Ro_sum_15 : decode prog_6_method_7_code 15 = .ok (.invokevirtual 31, 3) := by decide +kernel
theorem d_Ro_sum_18 : decode prog_6_method_7_code 18 = .ok (.sipush 255, 3) := by decide +kernel
theorem d_Ro_sum_21 : decode prog_6_method_7_code 21 = .ok (.iand, 1) := by decide +kernel
theorem d_Ro_sum_22 : decode prog_6_method_7_code 22 = .ok (.ixor, 1) := by decide +kernel
theorem d_Ro_sum_23 : decode prog_6_method_7_code 23 = .ok (.istore_n 3, 1) := by decide +kernel
theorem d_Ro_sum_24 : decode prog_6_method_7_code 24 = .ok (.iconst 0, 1) := by decide +kernel
theorem d_Ro_sum_25 : decode prog_6_method_7_code 25 = .ok (.istore 5, 2) := by decide +kernel
theorem d_Ro_sum_27 : decode prog_6_method_7_code 27 = .ok (.iload 5, 2) := by decide +kernel
theorem d_Ro_sum_29 : decode prog_6_method_7_code 29 = .ok (.bipush 8, 2) := by decide +kernel
theorem d_Ro_sum_31 : decode prog_6_method_7_code 31 = .ok (.if_icmp .ge 28, 3) := by decide +kernel
theorem d_Ro_sum_34 : decode prog_6_method_7_code 34 = .ok (.iload_n 3, 1) := by decide +kernel
theorem d_Ro_sum_35 : decode prog_6_method_7_code 35 = .ok (.iconst 1, 1) := by decide +kernel
theorem d_Ro_sum_36 : decode prog_6_method_7_code 36 = .ok (.iand, 1) := by decide +kernel
theorem d_Ro_sum_37 : decode prog_6_method_7_code 37 = .ok (.ifCond .eq 12, 3) := by decide +kernel
theorem d_Ro_sum_40 : decode prog_6_method_7_code 40 = .ok (.iload_n 3, 1) := by decide +kernel
theorem d_Ro_sum_41 : decode prog_6_method_7_code 41 = .ok (.iconst 1, 1) := by decide +kernel
theorem d_Ro_sum_42 : decode prog_6_method_7_code 42 = .ok (.iushr, 1) := by decide +kernel
theorem d_Ro_sum_43 : decode prog_6_method_7_code 43 = .ok (.ldc 35, 2) := by decide +kernel
theorem d_Ro_sum_45 : decode prog_6_method_7_code 45 = .ok (.ixor, 1) := by decide +kernel
theorem d_Ro_sum_46 : decode prog_6_method_7_code 46 = .ok (.goto 6, 3) := by decide +kernel
theorem d_Ro_sum_49 : decode prog_6_method_7_code 49 = .ok (.iload_n 3, 1) := by decide +kernel
theorem d_Ro_sum_50 : decode prog_6_method_7_code 50 = .ok (.iconst 1, 1) := by decide +kernel
theorem d_Ro_sum_51 : decode prog_6_method_7_code 51 = .ok (.iushr, 1) := by decide +kernel
theorem d_Ro_sum_52 : decode prog_6_method_7_code 52 = .ok (.istore_n 3, 1) := by decide +kernel
theorem d_Ro_sum_53 : decode prog_6_method_7_code 53 = .ok (.iinc 5 1, 3) := by decide +kernel
theorem d_Ro_sum_56 : decode prog_6_method_7_code 56 = .ok (.goto (-29), 3) := by decide +kernel
theorem d_Ro_sum_59 : decode prog_6_method_7_code 59 = .ok (.iinc 4 1, 3) := by decide +kernel
theorem d_Ro_sum_62 : decode prog_6_method_7_code 62 = .ok (.goto (-57), 3) := by decide +kernel
theorem d_Ro_sum_65 : decode prog_6_method_7_code 65 = .ok (.iload_n 3, 1) := by decide +kernel
theorem d_Ro_sum_66 : decode prog_6_method_7_code 66 = .ok (.iconst (-1), 1) := by decide +kernel
theorem d_Ro_sum_67 : decode prog_6_method_7_code 67 = .ok (.ixor, 1) := by decide +kernel
theorem d_Ro_sum_68 : decode prog_6_method_7_code 68 = .ok (.ireturn, 1) := by decide +kernel
theorem d_Fr_init_0 : decode prog_4_method_1_code 0 = .ok (.aload_n 0, 1) := by decide +kernel
theorem d_Fr_init_1 : decode prog_4_method_1_code 1 = .ok (.invokespecial 3, 3) := by decide +kernel
theorem d_Fr_init_4 : decode prog_4_method_1_code 4 = .ok (.aload_n 0, 1) := by decide +kernel
theorem d_Fr_init_5 : decode prog_4_method_1_code 5 = .ok (.bipush 8, 2) := by decide +kernel
theorem d_Fr_init_7 : decode prog_4_method_1_code 7 = .ok (.newarray .int, 2) := by decide +kernel
theorem d_Fr_init_9 : decode prog_4_method_1_code 9 = .ok (.putfield 9, 3) := by decide +kernel
theorem d_Fr_init_12 : decode prog_4_method_1_code 12 = .ok (.aload_n 0, 1) := by decide +kernel
theorem d_Fr_init_13 : decode prog_4_method_1_code 13 = .ok (.sipush 400, 3) := by decide +kernel
theorem d_Fr_init_16 : decode prog_4_method_1_code 16 = .ok (.newarray .int, 2) := by decide +kernel
theorem d_Fr_init_18 : decode prog_4_method_1_code 18 = .ok (.putfield 15, 3) := by decide +kernel
theorem d_Fr_init_21 : decode prog_4_method_1_code 21 = .ok (.return_, 1) := by decide +kernel
theorem d_Fr_add_0 : decode prog_4_method_2_code 0 = .ok (.aload_n 0, 1) := by decide +kernel
theorem d_Fr_add_1 : decode prog_4_method_2_code 1 = .ok (.getfield 18, 3) := by decide +kernel
theorem d_Fr_add_4 : decode prog_4_method_2_code 4 = .ok (.aload_n 0, 1) := by decide +kernel
theorem d_Fr_add_5 : decode prog_4_method_2_code 5 = .ok (.getfield 9, 3) := by decide +kernel
theorem d_Fr_add_8 : decode prog_4_method_2_code 8 = .ok (.arraylength, 1) := by decide +kernel
theorem d_Fr_add_9 : decode prog_4_method_2_code 9 = .ok (.if_icmp .ge 17, 3) := by decide +kernel
theorem d_Fr_add_12 : decode prog_4_method_2_code 12 = .ok (.aload_n 0, 1) := by decide +kernel
theorem d_Fr_add_13 : decode prog_4_method_2_code 13 = .ok (.getfield 22, 3) := by decide +kernel
theorem d_Fr_add_16 : decode prog_4_method_2_code 16 = .ok (.iload_n 1, 1) := by decide +kernel
theorem d_Fr_add_17 : decode prog_4_method_2_code 17 = .ok (.iadd, 1) := by decide +kernel
theorem d_Fr_add_18 : decode prog_4_method_2_code 18 = .ok (.aload_n 0, 1) := by decide +kernel
theorem d_Fr_add_19 : decode prog_4_method_2_code 19 = .ok (.getfield 15, 3) := by decide +kernel
theorem d_Fr_add_22 : decode prog_4_method_2_code 22 = .ok (.arraylength, 1) := by decide +kernel
theorem d_Fr_add_23 : decode prog_4_method_2_code 23 = .ok (.if_icmp .le 5, 3) := by decide +kernel
theorem d_Fr_add_26 : decode prog_4_method_2_code 26 = .ok (.iconst 0, 1) := by decide +kernel
theorem d_Fr_add_27 : decode prog_4_method_2_code 27 = .ok (.ireturn, 1) := by decide +kernel
theorem d_Fr_add_28 : decode prog_4_method_2_code 28 = .ok (.iconst 0, 1) := by decide +kernel
theorem d_Fr_add_29 : decode prog_4_method_2_code 29 = .ok (.istore_n 3, 1) := by decide +kernel
theorem d_Fr_add_30 : decode prog_4_method_2_code 30 = .ok (.iload_n 3, 1) := by decide +kernel
theorem d_Fr_add_31 : decode prog_4_method_2_code 31 = .ok (.iload_n 1, 1) := by decide +kernel
theorem d_Fr_add_32 : decode prog_4_method_2_code 32 = .ok (.if_icmp .ge 27, 3) := by decide +kernel
theorem d_Fr_add_35 : decode prog_4_method_2_code 35 = .ok (.aload_n 0, 1) := by decide +kernel
theorem d_Fr_add_36 : decode prog_4_method_2_code 36 = .ok (.getfield 15, 3) := by decide +kernel
theorem d_Fr_add_39 : decode prog_4_method_2_code 39 = .ok (.aload_n 0, 1) := by decide +kernel
theorem d_Fr_add_40 : decode prog_4_method_2_code 40 = .ok (.getfield 22, 3) := by decide +kernel
theorem d_Fr_add_43 : decode prog_4_method_2_code 43 = .ok (.iload_n 3, 1) := by decide +kernel
theorem d_Fr_add_44 : decode prog_4_method_2_code 44 = .ok (.iadd, 1) := by decide +kernel
theorem d_Fr_add_45 : decode prog_4_method_2_code 45 = .ok (.iload_n 2, 1) := by decide +kernel
theorem d_Fr_add_46 : decode prog_4_method_2_code 46 = .ok (.iload_n 3, 1) := by decide +kernel
theorem d_Fr_add_47 : decode prog_4_method_2_code 47 = .ok (.iadd, 1) := by decide +kernel
theorem d_Fr_add_48 : decode prog_4_method_2_code 48 = .ok (.sipush 255, 3) := by decide +kernel
theorem d_Fr_add_51 : decode prog_4_method_2_code 51 = .ok (.iand, 1) := by decide +kernel
theorem d_Fr_add_52 : decode prog_4_method_2_code 52 = .ok (.iastore, 1) := by decide +kernel
theorem d_Fr_add_53 : decode prog_4_method_2_code 53 = .ok (.iinc 3 1, 3) := by decide +kernel
theorem d_Fr_add_56 : decode prog_4_method_2_code 56 = .ok (.goto (-26), 3) := by decide +kernel
theorem d_Fr_add_59 : decode prog_4_method_2_code 59 = .ok (.aload_n 0, 1) := by decide +kernel
theorem d_Fr_add_60 : decode prog_4_method_2_code 60 = .ok (.getfield 9, 3) := by decide +kernel
theorem d_Fr_add_63 : decode prog_4_method_2_code 63 = .ok (.aload_n 0, 1) := by decide +kernel
theorem d_Fr_add_64 : decode prog_4_method_2_code 64 = .ok (.getfield 18, 3) := by decide +kernel
theorem d_Fr_add_67 : decode prog_4_method_2_code 67 = .ok (.iload_n 1, 1) := by decide +kernel
theorem d_Fr_add_68 : decode prog_4_method_2_code 68 = .ok (.iastore, 1) := by decide +kernel
theorem d_Fr_add_69 : decode prog_4_method_2_code 69 = .ok (.aload_n 0, 1) := by decide +kernel
theorem d_Fr_add_70 : decode prog_4_method_2_code 70 = .ok (.dup, 1) := by decide +kernel
theorem d_Fr_add_71 : decode prog_4_method_2_code 71 = .ok (.getfield 18, 3) := by decide +kernel
theorem d_Fr_add_74 : decode prog_4_method_2_code 74 = .ok (.iconst 1, 1) := by decide +kernel
theorem d_Fr_add_75 : decode prog_4_method_2_code 75 = .ok (.iadd, 1) := by decide +kernel
theorem d_Fr_add_76 : decode prog_4_method_2_code 76 = .ok (.putfield 18, 3) := by decide +kernel
theorem d_Fr_add_79 : decode prog_4_method_2_code 79 = .ok (.aload_n 0, 1) := by decide +kernel
theorem d_Fr_add_80 : decode prog_4_method_2_code 80 = .ok (.dup, 1) := by decide +kernel
theorem d_Fr_add_81 : decode prog_4_method_2_code 81 = .ok (.getfield 22, 3) := by decide +kernel
theorem d_Fr_add_84 : decode prog_4_method_2_code 84 = .ok (.iload_n 1, 1) := by decide +kernel
theorem d_Fr_add_85 : decode prog_4_method_2_code 85 = .ok (.iadd, 1) := by decide +kernel
theorem d_Fr_add_86 : decode prog_4_method_2_code 86 = .ok (.putfield 22, 3) := by decide +kernel
theorem d_Fr_add_89 : decode prog_4_method_2_code 89 = .ok (.iconst 1, 1) := by decide +kernel
theorem d_Fr_add_90 : decode prog_4_method_2_code 90 = .ok (.ireturn, 1) := by decide +kernel
theorem d_Fr_suit_0 : decode prog_4_method_3_code 0 = .ok (.iload_n 1, 1) := by decide +kernel
theorem d_Fr_suit_1 : decode prog_4_method_3_code 1 = .ok (.ifCond .lt 15, 3) := by decide +kernel
theorem d_Fr_suit_4 : decode prog_4_method_3_code 4 = .ok (.iload_n 1, 1) := by decide +kernel
theorem d_Fr_suit_5 : decode prog_4_method_3_code 5 = .ok (.iconst 3, 1) := by decide +kernel
theorem d_Fr_suit_6 : decode prog_4_method_3_code 6 = .ok (.if_icmp .gt 10, 3) := by decide +kernel
theorem d_Fr_suit_9 : decode prog_4_method_3_code 9 = .ok (.aload_n 0, 1) := by decide +kernel
theorem d_Fr_suit_10 : decode prog_4_method_3_code 10 = .ok (.getfield 18, 3) := by decide +kernel
theorem d_Fr_suit_13 : decode prog_4_method_3_code 13 = .ok (.ifCond .ne 5, 3) := by decide +kernel
theorem d_Fr_suit_16 : decode prog_4_method_3_code 16 = .ok (.iconst 0, 1) := by decide +kernel
theorem d_Fr_suit_17 : decode prog_4_method_3_code 17 = .ok (.ireturn, 1) := by decide +kernel
theorem d_Fr_suit_18 : decode prog_4_method_3_code 18 = .ok (.iload_n 1, 1) := by decide +kernel
theorem d_Fr_suit_19 : decode prog_4_method_3_code 19 = .ok (.ifCond .ne 17, 3) := by decide +kernel
theorem d_Fr_suit_22 : decode prog_4_method_3_code 22 = .ok (.aload_n 0, 1) := by decide +kernel
theorem d_Fr_suit_23 : decode prog_4_method_3_code 23 = .ok (.getfield 18, 3) := by decide +kernel
theorem d_Fr_suit_26 : decode prog_4_method_3_code 26 = .ok (.iconst 1, 1) := by decide +kernel
theorem d_Fr_suit_27 : decode prog_4_method_3_code 27 = .ok (.if_icmp .ne 7, 3) := by decide +kernel
theorem d_Fr_suit_30 : decode prog_4_method_3_code 30 = .ok (.iconst 1, 1) := by decide +kernel
theorem d_Fr_suit_31 : decode prog_4_method_3_code 31 = .ok (.goto 4, 3) := by decide +kernel
theorem d_Fr_suit_34 : decode prog_4_method_3_code 34 = .ok (.iconst 0, 1) := by decide +kernel
theorem d_Fr_suit_35 : decode prog_4_method_3_code 35 = .ok (.ireturn, 1) := by decide +kernel
theorem d_Fr_suit_36 : decode prog_4_method_3_code 36 = .ok (.iload_n 1, 1) := by decide +kernel
theorem d_Fr_suit_37 : decode prog_4_method_3_code 37 = .ok (.iconst 2, 1) := by decide +kernel
theorem d_Fr_suit_38 : decode prog_4_method_3_code 38 = .ok (.if_icmp .ne 10, 3) := by decide +kernel
theorem d_Fr_suit_41 : decode prog_4_method_3_code 41 = .ok (.aload_n 0, 1) := by decide +kernel
theorem d_Fr_suit_42 : decode prog_4_method_3_code 42 = .ok (.invokevirtual 25, 3) := by decide +kernel
theorem d_Fr_suit_45 : decode prog_4_method_3_code 45 = .ok (.ifCond .eq 7, 3) := by decide +kernel
theorem d_Fr_suit_48 : decode prog_4_method_3_code 48 = .ok (.iconst 1, 1) := by decide +kernel
theorem d_Fr_suit_49 : decode prog_4_method_3_code 49 = .ok (.goto 4, 3) := by decide +kernel
theorem d_Fr_suit_52 : decode prog_4_method_3_code 52 = .ok (.iconst 0, 1) := by decide +kernel
theorem d_Fr_suit_53 : decode prog_4_method_3_code 53 = .ok (.ireturn, 1) := by decide +kernel
theorem d_Fr_areEven_0 : decode prog_4_method_4_code 0 = .ok (.iconst 1, 1) := by decide +kernel
theorem d_Fr_areEven_1 : decode prog_4_method_4_code 1 = .ok (.istore_n 1, 1) := by decide +kernel
theorem d_Fr_areEven_2 : decode prog_4_method_4_code 2 = .ok (.iload_n 1, 1) := by decide +kernel
theorem d_Fr_areEven_3 : decode prog_4_method_4_code 3 = .ok (.aload_n 0, 1) := by decide +kernel
theorem d_Fr_areEven_4 : decode prog_4_method_4_code 4 = .ok (.getfield 18, 3) := by decide +kernel
theorem d_Fr_areEven_7 : decode prog_4_method_4_code 7 = .ok (.if_icmp .ge 26, 3) := by decide +kernel
theorem d_Fr_areEven_10 : decode prog_4_method_4_code 10 = .ok (.aload_n 0, 1) := by decide +kernel
theorem d_Fr_areEven_11 : decode prog_4_method_4_code 11 = .ok (.getfield 9, 3) := by decide +kernel
theorem d_Fr_areEven_14 : decode prog_4_method_4_code 14 = .ok (.iload_n 1, 1) := by decide +kernel
theorem d_Fr_areEven_15 : decode prog_4_method_4_code 15 = .ok (.iaload, 1) := by decide +kernel
theorem d_Fr_areEven_16 : decode prog_4_method_4_code 16 = .ok (.aload_n 0, 1) := by decide +kernel
theorem d_Fr_areEven_17 : decode prog_4_method_4_code 17 = .ok (.getfield 9, 3) := by decide +kernel
theorem d_Fr_areEven_20 : decode prog_4_method_4_code 20 = .ok (.iconst 0, 1) := by decide +kernel
theorem d_Fr_areEven_21 : decode prog_4_method_4_code 21 = .ok (.iaload, 1) := by decide +kernel
theorem d_Fr_areEven_22 : decode prog_4_method_4_code 22 = .ok (.if_icmp .eq 5, 3) := by decide +kernel
theorem d_Fr_areEven_25 : decode prog_4_method_4_code 25 = .ok (.iconst 0, 1) := by decide +kernel
theorem d_Fr_areEven_26 : decode prog_4_method_4_code 26 = .ok (.ireturn, 1) := by decide +kernel
theorem d_Fr_areEven_27 : decode prog_4_method_4_code 27 = .ok (.iinc 1 1, 3) := by decide +kernel
theorem d_Fr_areEven_30 : decode prog_4_method_4_code 30 = .ok (.goto (-28), 3) := by decide +kernel
theorem d_Fr_areEven_33 : decode prog_4_method_4_code 33 = .ok (.iconst 1, 1) := by decide +kernel
theorem d_Fr_areEven_34 : decode prog_4_method_4_code 34 = .ok (.ireturn, 1) := by decide +kernel
theorem d_Fr_moveTo_0 : decode prog_4_method_5_code 0 = .ok (.iconst 0, 1) := by decide +kernel
theorem d_Fr_moveTo_1 : decode prog_4_method_5_code 1 = .ok (.istore_n 3, 1) := by decide +kernel
theorem d_Fr_moveTo_2 : decode prog_4_method_5_code 2 = .ok (.iload_n 3, 1) := by decide +kernel
theorem d_Fr_moveTo_3 : decode prog_4_method_5_code 3 = .ok (.aload_n 0, 1) := by decide +kernel
theorem d_Fr_moveTo_4 : decode prog_4_method_5_code 4 = .ok (.getfield 18, 3) := by decide +kernel
theorem d_Fr_moveTo_7 : decode prog_4_method_5_code 7 = .ok (.if_icmp .ge 20, 3) := by decide +kernel
theorem d_Fr_moveTo_10 : decode prog_4_method_5_code 10 = .ok (.aload_n 1, 1) := by decide +kernel
theorem d_Fr_moveTo_11 : decode prog_4_method_5_code 11 = .ok (.aload_n 0, 1) := by decide +kernel
theorem d_Fr_moveTo_12 : decode prog_4_method_5_code 12 = .ok (.getfield 9, 3) := by decide +kernel
theorem d_Fr_moveTo_15 : decode prog_4_method_5_code 15 = .ok (.iload_n 3, 1) := by decide +kernel
theorem d_Fr_moveTo_16 : decode prog_4_method_5_code 16 = .ok (.iaload, 1) := by decide +kernel
theorem d_Fr_moveTo_17 : decode prog_4_method_5_code 17 = .ok (.invokevirtual 29, 3) := by decide +kernel
theorem d_Fr_moveTo_20 : decode prog_4_method_5_code 20 = .ok (.pop, 1) := by decide +kernel
theorem d_Fr_moveTo_21 : decode prog_4_method_5_code 21 = .ok (.iinc 3 1, 3) := by decide +kernel
theorem d_Fr_moveTo_24 : decode prog_4_method_5_code 24 = .ok (.goto (-22), 3) := by decide +kernel
theorem d_Fr_moveTo_27 : decode prog_4_method_5_code 27 = .ok (.aload_n 2, 1) := by decide +kernel
theorem d_Fr_moveTo_28 : decode prog_4_method_5_code 28 = .ok (.aload_n 1, 1) := by decide +kernel
theorem d_Fr_moveTo_29 : decode prog_4_method_5_code 29 = .ok (.invokevirtual 35, 3) := by decide +kernel
theorem d_Fr_moveTo_32 : decode prog_4_method_5_code 32 = .ok (.iconst 0, 1) := by decide +kernel
theorem d_Fr_moveTo_33 : decode prog_4_method_5_code 33 = .ok (.istore_n 3, 1) := by decide +kernel
theorem d_Fr_moveTo_34 : decode prog_4_method_5_code 34 = .ok (.iload_n 3, 1) := by decide +kernel
theorem d_Fr_moveTo_35 : decode prog_4_method_5_code 35 = .ok (.aload_n 0, 1) := by decide +kernel
theorem d_Fr_moveTo_36 : decode prog_4_method_5_code 36 = .ok (.getfield 22, 3) := by decide +kernel
theorem d_Fr_moveTo_39 : decode prog_4_method_5_code 39 = .ok (.if_icmp .ge 20, 3) := by decide +kernel
theorem d_Fr_moveTo_42 : decode prog_4_method_5_code 42 = .ok (.aload_n 2, 1) := by decide +kernel
theorem d_Fr_moveTo_43 : decode prog_4_method_5_code 43 = .ok (.aload_n 1, 1) := by decide +kernel
theorem d_Fr_moveTo_44 : decode prog_4_method_5_code 44 = .ok (.aload_n 0, 1) := by decide +kernel
theorem d_Fr_moveTo_45 : decode prog_4_method_5_code 45 = .ok (.getfield 15, 3) := by decide +kernel
theorem d_Fr_moveTo_48 : decode prog_4_method_5_code 48 = .ok (.iload_n 3, 1) := by decide +kernel
theorem d_Fr_moveTo_49 : decode prog_4_method_5_code 49 = .ok (.iaload, 1) := by decide +kernel
theorem d_Fr_moveTo_50 : decode prog_4_method_5_code 50 = .ok (.invokevirtual 41, 3) := by decide +kernel
theorem d_Fr_moveTo_53 : decode prog_4_method_5_code 53 = .ok (.iinc 3 1, 3) := by decide +kernel
theorem d_Fr_moveTo_56 : decode prog_4_method_5_code 56 = .ok (.goto (-22), 3) := by decide +kernel
theorem d_Fr_moveTo_59 : decode prog_4_method_5_code 59 = .ok (.aload_n 0, 1) := by decide +kernel
theorem d_Fr_moveTo_60 : decode prog_4_method_5_code 60 = .ok (.iconst 0, 1) := by decide +kernel
theorem d_Fr_moveTo_61 : decode prog_4_method_5_code 61 = .ok (.putfield 18, 3) := by decide +kernel
theorem d_Fr_moveTo_64 : decode prog_4_method_5_code 64 = .ok (.aload_n 0, 1) := by decide +kernel
theorem d_Fr_moveTo_65 : decode prog_4_method_5_code 65 = .ok (.iconst 0, 1) := by decide +kernel
theorem d_Fr_moveTo_66 : decode prog_4_method_5_code 66 = .ok (.putfield 22, 3) := by decide +kernel
theorem d_Fr_moveTo_69 : decode prog_4_method_5_code 69 = .ok (.return_, 1) := by decide +kernel
theorem d_El_init_0 : decode prog_2_method_1_code 0 = .ok (.aload_n 0, 1) := by decide +kernel
theorem d_El_init_1 : decode prog_2_method_1_code 1 = .ok (.invokespecial 3, 3) := by decide +kernel
theorem d_El_init_4 : decode prog_2_method_1_code 4 = .ok (.aload_n 0, 1) := by decide +kernel
theorem d_El_init_5 : decode prog_2_method_1_code 5 = .ok (.getstatic 9, 3) := by decide +kernel

theorem d_Fi_renewCues_50 : decode prog_3_method_2_code 50 = .ok (.iconst 0, 1) := by decide +kernel
theorem d_Fi_renewCues_51 : decode prog_3_method_2_code 51 = .ok (.istore 4, 2) := by decide +kernel
theorem d_Fi_renewCues_53 : decode prog_3_method_2_code 53 = .ok (.aload_n 0, 1) := by decide +kernel
theorem d_Fi_renewCues_54 : decode prog_3_method_2_code 54 = .ok (.getfield 9, 3) := by decide +kernel
theorem d_Fi_renewCues_57 : decode prog_3_method_2_code 57 = .ok (.aload_n 1, 1) := by decide +kernel
theorem d_Fi_renewCues_58 : decode prog_3_method_2_code 58 = .ok (.invokevirtual 39, 3) := by decide +kernel
theorem d_Fi_renewCues_61 : decode prog_3_method_2_code 61 = .ok (.istore 5, 2) := by decide +kernel
theorem d_Fi_renewCues_63 : decode prog_3_method_2_code 63 = .ok (.aload_n 1, 1) := by decide +kernel
theorem d_Fi_renewCues_64 : decode prog_3_method_2_code 64 = .ok (.getfield 42, 3) := by decide +kernel
theorem d_Fi_renewCues_67 : decode prog_3_method_2_code 67 = .ok (.iconst 1, 1) := by decide +kernel
theorem d_Fi_renewCues_68 : decode prog_3_method_2_code 68 = .ok (.iadd, 1) := by decide +kernel
theorem d_Fi_renewCues_69 : decode prog_3_method_2_code 69 = .ok (.istore 6, 2) := by decide +kernel
theorem d_Fi_renewCues_71 : decode prog_3_method_2_code 71 = .ok (.iload 6, 2) := by decide +kernel
theorem d_Fi_renewCues_73 : decode prog_3_method_2_code 73 = .ok (.iload 5, 2) := by decide +kernel
theorem d_Fi_renewCues_75 : decode prog_3_method_2_code 75 = .ok (.if_icmp .ge 52, 3) := by decide +kernel
theorem d_Fi_renewCues_78 : decode prog_3_method_2_code 78 = .ok (.aload_n 0, 1) := by decide +kernel
theorem d_Fi_renewCues_79 : decode prog_3_method_2_code 79 = .ok (.getfield 9, 3) := by decide +kernel
theorem d_Fi_renewCues_82 : decode prog_3_method_2_code 82 = .ok (.getfield 47, 3) := by decide +kernel
theorem d_Fi_renewCues_85 : decode prog_3_method_2_code 85 = .ok (.iload 6, 2) := by decide +kernel
theorem d_Fi_renewCues_87 : decode prog_3_method_2_code 87 = .ok (.aaload, 1) := by decide +kernel
theorem d_Fi_renewCues_88 : decode prog_3_method_2_code 88 = .ok (.astore 7, 2) := by decide +kernel
theorem d_Fi_renewCues_90 : decode prog_3_method_2_code 90 = .ok (.aload 7, 2) := by decide +kernel
theorem d_Fi_renewCues_92 : decode prog_3_method_2_code 92 = .ok (.getfield 51, 3) := by decide +kernel
theorem d_Fi_renewCues_95 : decode prog_3_method_2_code 95 = .ok (.getstatic 54, 3) := by decide +kernel
theorem d_Fi_renewCues_98 : decode prog_3_method_2_code 98 = .ok (.if_acmp .ne 23, 3) := by decide +kernel
theorem d_Fi_renewCues_101 : decode prog_3_method_2_code 101 = .ok (.aload 7, 2) := by decide +kernel
theorem d_Fi_renewCues_103 : decode prog_3_method_2_code 103 = .ok (.getfield 57, 3) := by decide +kernel
theorem d_Fi_renewCues_106 : decode prog_3_method_2_code 106 = .ok (.ifCond .eq 12, 3) := by decide +kernel
theorem d_Fi_renewCues_109 : decode prog_3_method_2_code 109 = .ok (.aload_n 0, 1) := by decide +kernel
theorem d_Fi_renewCues_110 : decode prog_3_method_2_code 110 = .ok (.aload_n 1, 1) := by decide +kernel
theorem d_Fi_renewCues_111 : decode prog_3_method_2_code 111 = .ok (.aload 7, 2) := by decide +kernel
theorem d_Fi_renewCues_113 : decode prog_3_method_2_code 113 = .ok (.iload 4, 2) := by decide +kernel
theorem d_Fi_renewCues_115 : decode prog_3_method_2_code 115 = .ok (.invokevirtual 61, 3) := by decide +kernel
theorem d_Fi_renewCues_118 : decode prog_3_method_2_code 118 = .ok (.iinc 4 1, 3) := by decide +kernel
theorem d_Fi_renewCues_121 : decode prog_3_method_2_code 121 = .ok (.iinc 6 1, 3) := by decide +kernel
theorem d_Fi_renewCues_124 : decode prog_3_method_2_code 124 = .ok (.goto (-53), 3) := by decide +kernel
theorem d_Fi_renewCues_127 : decode prog_3_method_2_code 127 = .ok (.iload_n 2, 1) := by decide +kernel
theorem d_Fi_renewCues_128 : decode prog_3_method_2_code 128 = .ok (.ireturn, 1) := by decide +kernel
theorem d_Fi_countKeyBlocks_0 : decode prog_3_method_3_code 0 = .ok (.iconst 0, 1) := by decide +kernel
theorem d_Fi_countKeyBlocks_1 : decode prog_3_method_3_code 1 = .ok (.istore_n 2, 1) := by decide +kernel
theorem d_Fi_countKeyBlocks_2 : decode prog_3_method_3_code 2 = .ok (.aload_n 0, 1) := by decide +kernel
theorem d_Fi_countKeyBlocks_3 : decode prog_3_method_3_code 3 = .ok (.getfield 9, 3) := by decide +kernel
theorem d_Fi_countKeyBlocks_6 : decode prog_3_method_3_code 6 = .ok (.aload_n 1, 1) := by decide +kernel
theorem d_Fi_countKeyBlocks_7 : decode prog_3_method_3_code 7 = .ok (.invokevirtual 39, 3) := by decide +kernel
theorem d_Fi_countKeyBlocks_10 : decode prog_3_method_3_code 10 = .ok (.istore_n 3, 1) := by decide +kernel
theorem d_Fi_countKeyBlocks_11 : decode prog_3_method_3_code 11 = .ok (.aload_n 1, 1) := by decide +kernel
theorem d_Fi_countKeyBlocks_12 : decode prog_3_method_3_code 12 = .ok (.getfield 42, 3) := by decide +kernel
theorem d_Fi_countKeyBlocks_15 : decode prog_3_method_3_code 15 = .ok (.iconst 1, 1) := by decide +kernel
theorem d_Fi_countKeyBlocks_16 : decode prog_3_method_3_code 16 = .ok (.iadd, 1) := by decide +kernel
theorem d_Fi_countKeyBlocks_17 : decode prog_3_method_3_code 17 = .ok (.istore 4, 2) := by decide +kernel
theorem d_Fi_countKeyBlocks_19 : decode prog_3_method_3_code 19 = .ok (.iload 4, 2) := by decide +kernel
theorem d_Fi_countKeyBlocks_21 : decode prog_3_method_3_code 21 = .ok (.iload_n 3, 1) := by decide +kernel
theorem d_Fi_countKeyBlocks_22 : decode prog_3_method_3_code 22 = .ok (.if_icmp .ge 47, 3) := by decide +kernel
theorem d_Fi_countKeyBlocks_25 : decode prog_3_method_3_code 25 = .ok (.aload_n 0, 1) := by decide +kernel
theorem d_Fi_countKeyBlocks_26 : decode prog_3_method_3_code 26 = .ok (.getfield 9, 3) := by decide +kernel
theorem d_Fi_countKeyBlocks_29 : decode prog_3_method_3_code 29 = .ok (.getfield 47, 3) := by decide +kernel
theorem d_Fi_countKeyBlocks_32 : decode prog_3_method_3_code 32 = .ok (.iload 4, 2) := by decide +kernel
theorem d_Fi_countKeyBlocks_34 : decode prog_3_method_3_code 34 = .ok (.aaload, 1) := by decide +kernel
theorem d_Fi_countKeyBlocks_35 : decode prog_3_method_3_code 35 = .ok (.getfield 51, 3) := by decide +kernel
theorem d_Fi_countKeyBlocks_38 : decode prog_3_method_3_code 38 = .ok (.getstatic 54, 3) := by decide +kernel
theorem d_Fi_countKeyBlocks_41 : decode prog_3_method_3_code 41 = .ok (.if_acmp .ne 22, 3) := by decide +kernel
theorem d_Fi_countKeyBlocks_44 : decode prog_3_method_3_code 44 = .ok (.aload_n 0, 1) := by decide +kernel
theorem d_Fi_countKeyBlocks_45 : decode prog_3_method_3_code 45 = .ok (.getfield 9, 3) := by decide +kernel
theorem d_Fi_countKeyBlocks_48 : decode prog_3_method_3_code 48 = .ok (.getfield 47, 3) := by decide +kernel
theorem d_Fi_countKeyBlocks_51 : decode prog_3_method_3_code 51 = .ok (.iload 4, 2) := by decide +kernel
theorem d_Fi_countKeyBlocks_53 : decode prog_3_method_3_code 53 = .ok (.aaload, 1) := by decide +kernel
theorem d_Fi_countKeyBlocks_54 : decode prog_3_method_3_code 54 = .ok (.getfield 57, 3) := by decide +kernel
theorem d_Fi_countKeyBlocks_57 : decode prog_3_method_3_code 57 = .ok (.ifCond .eq 6, 3) := by decide +kernel
theorem d_Fi_countKeyBlocks_60 : decode prog_3_method_3_code 60 = .ok (.iinc 2 1, 3) := by decide +kernel
theorem d_Fi_countKeyBlocks_63 : decode prog_3_method_3_code 63 = .ok (.iinc 4 1, 3) := by decide +kernel
theorem d_Fi_countKeyBlocks_66 : decode prog_3_method_3_code 66 = .ok (.goto (-47), 3) := by decide +kernel
theorem d_Fi_countKeyBlocks_69 : decode prog_3_method_3_code 69 = .ok (.iload_n 2, 1) := by decide +kernel
theorem d_Fi_countKeyBlocks_70 : decode prog_3_method_3_code 70 = .ok (.ireturn, 1) := by decide +kernel
theorem d_Fi_addCue_0 : decode prog_3_method_4_code 0 = .ok (.aload_n 0, 1) := by decide +kernel
theorem d_Fi_addCue_1 : decode prog_3_method_4_code 1 = .ok (.getfield 9, 3) := by decide +kernel
theorem d_Fi_addCue_4 : decode prog_3_method_4_code 4 = .ok (.aload_n 1, 1) := by decide +kernel
theorem d_Fi_addCue_5 : decode prog_3_method_4_code 5 = .ok (.getstatic 25, 3) := by decide +kernel
theorem d_Fi_addCue_8 : decode prog_3_method_4_code 8 = .ok (.getstatic 25, 3) := by decide +kernel
theorem d_Fi_addCue_11 : decode prog_3_method_4_code 11 = .ok (.getfield 65, 3) := by decide +kernel
theorem d_Fi_addCue_14 : decode prog_3_method_4_code 14 = .ok (.invokevirtual 68, 3) := by decide +kernel
theorem d_Fi_addCue_17 : decode prog_3_method_4_code 17 = .ok (.astore 4, 2) := by decide +kernel
theorem d_Fi_addCue_19 : decode prog_3_method_4_code 19 = .ok (.aload 4, 2) := by decide +kernel
theorem d_Fi_addCue_21 : decode prog_3_method_4_code 21 = .ok (.ifnonnull 4, 3) := by decide +kernel
theorem d_Fi_addCue_24 : decode prog_3_method_4_code 24 = .ok (.return_, 1) := by decide +kernel
theorem d_Fi_addCue_25 : decode prog_3_method_4_code 25 = .ok (.aload_n 0, 1) := by decide +kernel
theorem d_Fi_addCue_26 : decode prog_3_method_4_code 26 = .ok (.aload 4, 2) := by decide +kernel
theorem d_Fi_addCue_28 : decode prog_3_method_4_code 28 = .ok (.getstatic 72, 3) := by decide +kernel
theorem d_Fi_addCue_31 : decode prog_3_method_4_code 31 = .ok (.aload_n 0, 1) := by decide +kernel
theorem d_Fi_addCue_32 : decode prog_3_method_4_code 32 = .ok (.aload_n 2, 1) := by decide +kernel
theorem d_Fi_addCue_33 : decode prog_3_method_4_code 33 = .ok (.invokevirtual 75, 3) := by decide +kernel
theorem d_Fi_addCue_36 : decode prog_3_method_4_code 36 = .ok (.invokevirtual 79, 3) := by decide +kernel
theorem d_Fi_addCue_39 : decode prog_3_method_4_code 39 = .ok (.aload_n 0, 1) := by decide +kernel
theorem d_Fi_addCue_40 : decode prog_3_method_4_code 40 = .ok (.aload 4, 2) := by decide +kernel
theorem d_Fi_addCue_42 : decode prog_3_method_4_code 42 = .ok (.getstatic 83, 3) := by decide +kernel
theorem d_Fi_addCue_45 : decode prog_3_method_4_code 45 = .ok (.aload_n 2, 1) := by decide +kernel
theorem d_Fi_addCue_46 : decode prog_3_method_4_code 46 = .ok (.getfield 86, 3) := by decide +kernel
theorem d_Fi_addCue_49 : decode prog_3_method_4_code 49 = .ok (.i2l, 1) := by decide +kernel
theorem d_Fi_addCue_50 : decode prog_3_method_4_code 50 = .ok (.invokevirtual 79, 3) := by decide +kernel
theorem d_Fi_addCue_53 : decode prog_3_method_4_code 53 = .ok (.aload_n 0, 1) := by decide +kernel
theorem d_Fi_addCue_54 : decode prog_3_method_4_code 54 = .ok (.aload 4, 2) := by decide +kernel
theorem d_Fi_addCue_56 : decode prog_3_method_4_code 56 = .ok (.getstatic 89, 3) := by decide +kernel
theorem d_Fi_addCue_59 : decode prog_3_method_4_code 59 = .ok (.iload_n 3, 1) := by decide +kernel
theorem d_Fi_addCue_60 : decode prog_3_method_4_code 60 = .ok (.i2l, 1) := by decide +kernel
theorem d_Fi_addCue_61 : decode prog_3_method_4_code 61 = .ok (.invokevirtual 79, 3) := by decide +kernel
theorem d_Fi_addCue_64 : decode prog_3_method_4_code 64 = .ok (.return_, 1) := by decide +kernel
theorem d_Fi_addNumber_0 : decode prog_3_method_5_code 0 = .ok (.aload_n 0, 1) := by decide +kernel
theorem d_Fi_addNumber_1 : decode prog_3_method_5_code 1 = .ok (.getfield 9, 3) := by decide +kernel
theorem d_Fi_addNumber_4 : decode prog_3_method_5_code 4 = .ok (.aload_n 1, 1) := by decide +kernel
theorem d_Fi_addNumber_5 : decode prog_3_method_5_code 5 = .ok (.aload_n 2, 1) := by decide +kernel
theorem d_Fi_addNumber_6 : decode prog_3_method_5_code 6 = .ok (.aload_n 2, 1) := by decide +kernel
theorem d_Fi_addNumber_7 : decode prog_3_method_5_code 7 = .ok (.getfield 65, 3) := by decide +kernel
theorem d_Fi_addNumber_10 : decode prog_3_method_5_code 10 = .ok (.invokevirtual 68, 3) := by decide +kernel
theorem d_Fi_addNumber_13 : decode prog_3_method_5_code 13 = .ok (.astore 5, 2) := by decide +kernel
theorem d_Fi_addNumber_15 : decode prog_3_method_5_code 15 = .ok (.aload 5, 2) := by decide +kernel
theorem d_Fi_addNumber_17 : decode prog_3_method_5_code 17 = .ok (.ifnull 9, 3) := by decide +kernel
theorem d_Fi_addNumber_20 : decode prog_3_method_5_code 20 = .ok (.aload 5, 2) := by decide +kernel
theorem d_Fi_addNumber_22 : decode prog_3_method_5_code 22 = .ok (.lload_n 3, 1) := by decide +kernel
theorem d_Fi_addNumber_23 : decode prog_3_method_5_code 23 = .ok (.putfield 92, 3) := by decide +kernel
theorem d_Fi_addNumber_26 : decode prog_3_method_5_code 26 = .ok (.return_, 1) := by decide +kernel
theorem d_Fi_momentOf_0 : decode prog_3_method_6_code 0 = .ok (.aload_n 1, 1) := by decide +kernel
theorem d_Fi_momentOf_1 : decode prog_3_method_6_code 1 = .ok (.getfield 96, 3) := by decide +kernel
theorem d_Fi_momentOf_4 : decode prog_3_method_6_code 4 = .ok (.ifnonnull 11, 3) := by decide +kernel
theorem d_Fi_momentOf_7 : decode prog_3_method_6_code 7 = .ok (.aload_n 1, 1) := by decide +kernel
theorem d_Fi_momentOf_8 : decode prog_3_method_6_code 8 = .ok (.getfield 100, 3) := by decide +kernel
theorem d_Fi_momentOf_11 : decode prog_3_method_6_code 11 = .ok (.i2l, 1) := by decide +kernel
theorem d_Fi_momentOf_12 : decode prog_3_method_6_code 12 = .ok (.goto 20, 3) := by decide +kernel
theorem d_Fi_momentOf_15 : decode prog_3_method_6_code 15 = .ok (.aload_n 0, 1) := by decide +kernel
theorem d_Fi_momentOf_16 : decode prog_3_method_6_code 16 = .ok (.aload_n 1, 1) := by decide +kernel
theorem d_Fi_momentOf_17 : decode prog_3_method_6_code 17 = .ok (.getfield 96, 3) := by decide +kernel
theorem d_Fi_momentOf_20 : decode prog_3_method_6_code 20 = .ok (.getstatic 103, 3) := by decide +kernel
theorem d_Fi_momentOf_23 : decode prog_3_method_6_code 23 = .ok (.invokevirtual 106, 3) := by decide +kernel
theorem d_Fi_momentOf_26 : decode prog_3_method_6_code 26 = .ok (.aload_n 1, 1) := by decide +kernel
theorem d_Fi_momentOf_27 : decode prog_3_method_6_code 27 = .ok (.getfield 100, 3) := by decide +kernel
theorem d_Fi_momentOf_30 : decode prog_3_method_6_code 30 = .ok (.i2l, 1) := by decide +kernel
theorem d_Fi_momentOf_31 : decode prog_3_method_6_code 31 = .ok (.ladd, 1) := by decide +kernel
theorem d_Fi_momentOf_32 : decode prog_3_method_6_code 32 = .ok (.lreturn, 1) := by decide +kernel
theorem d_Fi_firstNumber_0 : decode prog_3_method_7_code 0 = .ok (.aload_n 0, 1) := by decide +kernel
theorem d_Fi_firstNumber_1 : decode prog_3_method_7_code 1 = .ok (.getfield 9, 3) := by decide +kernel
theorem d_Fi_firstNumber_4 : decode prog_3_method_7_code 4 = .ok (.aload_n 1, 1) := by decide +kernel
theorem d_Fi_firstNumber_5 : decode prog_3_method_7_code 5 = .ok (.invokevirtual 39, 3) := by decide +kernel
theorem d_Fi_firstNumber_8 : decode prog_3_method_7_code 8 = .ok (.istore_n 3, 1) := by decide +kernel
theorem d_Fi_firstNumber_9 : decode prog_3_method_7_code 9 = .ok (.aload_n 1, 1) := by decide +kernel
theorem d_Fi_firstNumber_10 : decode prog_3_method_7_code 10 = .ok (.getfield 42, 3) := by decide +kernel
theorem d_Fi_firstNumber_13 : decode prog_3_method_7_code 13 = .ok (.iconst 1, 1) := by decide +kernel
theorem d_Fi_firstNumber_14 : decode prog_3_method_7_code 14 = .ok (.iadd, 1) := by decide +kernel
theorem d_Fi_firstNumber_15 : decode prog_3_method_7_code 15 = .ok (.istore 4, 2) := by decide +kernel
theorem d_Fi_firstNumber_17 : decode prog_3_method_7_code 17 = .ok (.iload 4, 2) := by decide +kernel
theorem d_Fi_firstNumber_19 : decode prog_3_method_7_code 19 = .ok (.iload_n 3, 1) := by decide +kernel
theorem d_Fi_firstNumber_20 : decode prog_3_method_7_code 20 = .ok (.if_icmp .ge 40, 3) := by decide +kernel
theorem d_Fi_firstNumber_23 : decode prog_3_method_7_code 23 = .ok (.aload_n 0, 1) := by decide +kernel
theorem d_Fi_firstNumber_24 : decode prog_3_method_7_code 24 = .ok (.getfield 9, 3) := by decide +kernel
theorem d_Fi_firstNumber_27 : decode prog_3_method_7_code 27 = .ok (.getfield 47, 3) := by decide +kernel
theorem d_Fi_firstNumber_30 : decode prog_3_method_7_code 30 = .ok (.iload 4, 2) := by decide +kernel
theorem d_Fi_firstNumber_32 : decode prog_3_method_7_code 32 = .ok (.aaload, 1) := by decide +kernel
theorem d_Fi_firstNumber_33 : decode prog_3_method_7_code 33 = .ok (.getfield 51, 3) := by decide +kernel
theorem d_Fi_firstNumber_36 : decode prog_3_method_7_code 36 = .ok (.aload_n 2, 1) := by decide +kernel
theorem d_Fi_firstNumber_37 : decode prog_3_method_7_code 37 = .ok (.if_acmp .ne 17, 3) := by decide +kernel
theorem d_Fi_firstNumber_40 : decode prog_3_method_7_code 40 = .ok (.aload_n 0, 1) := by decide +kernel
theorem d_Fi_firstNumber_41 : decode prog_3_method_7_code 41 = .ok (.getfield 9, 3) := by decide +kernel
theorem d_Fi_firstNumber_44 : decode prog_3_method_7_code 44 = .ok (.getfield 47, 3) := by decide +kernel
theorem d_Fi_firstNumber_47 : decode prog_3_method_7_code 47 = .ok (.iload 4, 2) := by decide +kernel
theorem d_Fi_firstNumber_49 : decode prog_3_method_7_code 49 = .ok (.aaload, 1) := by decide +kernel
theorem d_Fi_firstNumber_50 : decode prog_3_method_7_code 50 = .ok (.getfield 92, 3) := by decide +kernel
theorem d_Fi_firstNumber_53 : decode prog_3_method_7_code 53 = .ok (.lreturn, 1) := by decide +kernel
theorem d_Fi_firstNumber_54 : decode prog_3_method_7_code 54 = .ok (.iinc 4 1, 3) := by decide +kernel
theorem d_Fi_firstNumber_57 : decode prog_3_method_7_code 57 = .ok (.goto (-40), 3) := by decide +kernel
theorem d_Fi_firstNumber_60 : decode prog_3_method_7_code 60 = .ok (.lconst 0, 1) := by decide +kernel
theorem d_Fi_firstNumber_61 : decode prog_3_method_7_code 61 = .ok (.lreturn, 1) := by decide +kernel
theorem d_Fi_findByBlocks_0 : decode prog_3_method_8_code 0 = .ok (.aload_n 0, 1) := by decide +kernel
theorem d_Fi_findByBlocks_1 : decode prog_3_method_8_code 1 = .ok (.getfield 9, 3) := by decide +kernel
theorem d_Fi_findByBlocks_4 : decode prog_3_method_8_code 4 = .ok (.aload_n 1, 1) := by decide +kernel
theorem d_Fi_findByBlocks_5 : decode prog_3_method_8_code 5 = .ok (.invokevirtual 39, 3) := by decide +kernel
theorem d_Fi_findByBlocks_8 : decode prog_3_method_8_code 8 = .ok (.istore 5, 2) := by decide +kernel
theorem d_Fi_findByBlocks_10 : decode prog_3_method_8_code 10 = .ok (.iload 5, 2) := by decide +kernel
theorem d_Fi_findByBlocks_12 : decode prog_3_method_8_code 12 = .ok (.iconst 1, 1) := by decide +kernel
theorem d_Fi_findByBlocks_13 : decode prog_3_method_8_code 13 = .ok (.isub, 1) := by decide +kernel
theorem d_Fi_findByBlocks_14 : decode prog_3_method_8_code 14 = .ok (.istore 6, 2) := by decide +kernel
theorem d_Fi_findByBlocks_16 : decode prog_3_method_8_code 16 = .ok (.iload 6, 2) := by decide +kernel
theorem d_Fi_findByBlocks_18 : decode prog_3_method_8_code 18 = .ok (.aload_n 1, 1) := by decide +kernel
theorem d_Fi_findByBlocks_19 : decode prog_3_method_8_code 19 = .ok (.getfield 42, 3) := by decide +kernel
theorem d_Fi_findByBlocks_22 : decode prog_3_method_8_code 22 = .ok (.if_icmp .le 63, 3) := by decide +kernel
theorem d_Fi_findByBlocks_25 : decode prog_3_method_8_code 25 = .ok (.aload_n 0, 1) := by decide +kernel
theorem d_Fi_findByBlocks_26 : decode prog_3_method_8_code 26 = .ok (.getfield 9, 3) := by decide +kernel
theorem d_Fi_findByBlocks_29 : decode prog_3_method_8_code 29 = .ok (.getfield 47, 3) := by decide +kernel
theorem d_Fi_findByBlocks_32 : decode prog_3_method_8_code 32 = .ok (.iload 6, 2) := by decide +kernel
theorem d_Fi_findByBlocks_34 : decode prog_3_method_8_code 34 = .ok (.aaload, 1) := by decide +kernel
theorem d_Fi_findByBlocks_35 : decode prog_3_method_8_code 35 = .ok (.astore 7, 2) := by decide +kernel
theorem d_Fi_findByBlocks_37 : decode prog_3_method_8_code 37 = .ok (.aload 7, 2) := by decide +kernel
theorem d_Fi_findByBlocks_39 : decode prog_3_method_8_code 39 = .ok (.getfield 51, 3) := by decide +kernel
theorem d_Fi_findByBlocks_42 : decode prog_3_method_8_code 42 = .ok (.getstatic 54, 3) := by decide +kernel
theorem d_Fi_findByBlocks_45 : decode prog_3_method_8_code 45 = .ok (.if_acmp .ne 34, 3) := by decide +kernel
theorem d_Fi_findByBlocks_48 : decode prog_3_method_8_code 48 = .ok (.aload 7, 2) := by decide +kernel
theorem d_Fi_findByBlocks_50 : decode prog_3_method_8_code 50 = .ok (.getfield 57, 3) := by decide +kernel
theorem d_Fi_findByBlocks_53 : decode prog_3_method_8_code 53 = .ok (.ifCond .eq 26, 3) := by decide +kernel
theorem d_Fi_findByBlocks_56 : decode prog_3_method_8_code 56 = .ok (.aload 7, 2) := by decide +kernel
theorem d_Fi_findByBlocks_58 : decode prog_3_method_8_code 58 = .ok (.getfield 86, 3) := by decide +kernel
theorem d_Fi_findByBlocks_61 : decode prog_3_method_8_code 61 = .ok (.iload_n 2, 1) := by decide +kernel
theorem d_Fi_findByBlocks_62 : decode prog_3_method_8_code 62 = .ok (.if_icmp .ne 17, 3) := by decide +kernel
theorem d_Fi_findByBlocks_65 : decode prog_3_method_8_code 65 = .ok (.aload_n 0, 1) := by decide +kernel
theorem d_Fi_findByBlocks_66 : decode prog_3_method_8_code 66 = .ok (.aload 7, 2) := by decide +kernel
theorem d_Fi_findByBlocks_68 : decode prog_3_method_8_code 68 = .ok (.invokevirtual 75, 3) := by decide +kernel
theorem d_Fi_findByBlocks_71 : decode prog_3_method_8_code 71 = .ok (.lload_n 3, 1) := by decide +kernel
theorem d_Fi_findByBlocks_72 : decode prog_3_method_8_code 72 = .ok (.lcmp, 1) := by decide +kernel
theorem d_Fi_findByBlocks_73 : decode prog_3_method_8_code 73 = .ok (.ifCond .gt 6, 3) := by decide +kernel
theorem d_Fi_findByBlocks_76 : decode prog_3_method_8_code 76 = .ok (.iload 6, 2) := by decide +kernel
theorem d_Fi_findByBlocks_78 : decode prog_3_method_8_code 78 = .ok (.ireturn, 1) := by decide +kernel
theorem d_Fi_findByBlocks_79 : decode prog_3_method_8_code 79 = .ok (.iinc 6 (-1), 3) := by decide +kernel
theorem d_Fi_findByBlocks_82 : decode prog_3_method_8_code 82 = .ok (.goto (-66), 3) := by decide +kernel
theorem d_Fi_findByBlocks_85 : decode prog_3_method_8_code 85 = .ok (.iconst (-1), 1) := by decide +kernel
theorem d_Fi_findByBlocks_86 : decode prog_3_method_8_code 86 = .ok (.ireturn, 1) := by decide +kernel
theorem d_Fi_findByCues_0 : decode prog_3_method_9_code 0 = .ok (.aload_n 0, 1) := by decide +kernel
theorem d_Fi_findByCues_1 : decode prog_3_method_9_code 1 = .ok (.getfield 9, 3) := by decide +kernel
theorem d_Fi_findByCues_4 : decode prog_3_method_9_code 4 = .ok (.aload_n 1, 1) := by decide +kernel
theorem d_Fi_findByCues_5 : decode prog_3_method_9_code 5 = .ok (.invokevirtual 39, 3) := by decide +kernel
theorem d_Fi_findByCues_8 : decode prog_3_method_9_code 8 = .ok (.istore 5, 2) := by decide +kernel
theorem d_Fi_findByCues_10 : decode prog_3_method_9_code 10 = .ok (.iload 5, 2) := by decide +kernel
theorem d_Fi_findByCues_12 : decode prog_3_method_9_code 12 = .ok (.iconst 1, 1) := by decide +kernel
theorem d_Fi_findByCues_13 : decode prog_3_method_9_code 13 = .ok (.isub, 1) := by decide +kernel
theorem d_Fi_findByCues_14 : decode prog_3_method_9_code 14 = .ok (.istore 6, 2) := by decide +kernel
theorem d_Fi_findByCues_16 : decode prog_3_method_9_code 16 = .ok (.iload 6, 2) := by decide +kernel
theorem d_Fi_findByCues_18 : decode prog_3_method_9_code 18 = .ok (.aload_n 1, 1) := by decide +kernel
theorem d_Fi_findByCues_19 : decode prog_3_method_9_code 19 = .ok (.getfield 42, 3) := by decide +kernel
theorem d_Fi_findByCues_22 : decode prog_3_method_9_code 22 = .ok (.if_icmp .le 76, 3) := by decide +kernel
theorem d_Fi_findByCues_25 : decode prog_3_method_9_code 25 = .ok (.aload_n 0, 1) := by decide +kernel
theorem d_Fi_findByCues_26 : decode prog_3_method_9_code 26 = .ok (.getfield 9, 3) := by decide +kernel
theorem d_Fi_findByCues_29 : decode prog_3_method_9_code 29 = .ok (.getfield 47, 3) := by decide +kernel
theorem d_Fi_findByCues_32 : decode prog_3_method_9_code 32 = .ok (.iload 6, 2) := by decide +kernel
theorem d_Fi_findByCues_34 : decode prog_3_method_9_code 34 = .ok (.aaload, 1) := by decide +kernel
theorem d_Fi_findByCues_35 : decode prog_3_method_9_code 35 = .ok (.astore 7, 2) := by decide +kernel
theorem d_Fi_findByCues_37 : decode prog_3_method_9_code 37 = .ok (.aload 7, 2) := by decide +kernel
theorem d_Fi_findByCues_39 : decode prog_3_method_9_code 39 = .ok (.getfield 51, 3) := by decide +kernel
theorem d_Fi_findByCues_42 : decode prog_3_method_9_code 42 = .ok (.getstatic 25, 3) := by decide +kernel
theorem d_Fi_findByCues_45 : decode prog_3_method_9_code 45 = .ok (.if_acmp .ne 47, 3) := by decide +kernel
theorem d_Fi_findByCues_48 : decode prog_3_method_9_code 48 = .ok (.aload_n 0, 1) := by decide +kernel
theorem d_Fi_findByCues_49 : decode prog_3_method_9_code 49 = .ok (.aload 7, 2) := by decide +kernel
theorem d_Fi_findByCues_51 : decode prog_3_method_9_code 51 = .ok (.getstatic 83, 3) := by decide +kernel
theorem d_Fi_findByCues_54 : decode prog_3_method_9_code 54 = .ok (.invokevirtual 106, 3) := by decide +kernel
theorem d_Fi_findByCues_57 : decode prog_3_method_9_code 57 = .ok (.iload_n 2, 1) := by decide +kernel
theorem d_Fi_findByCues_58 : decode prog_3_method_9_code 58 = .ok (.i2l, 1) := by decide +kernel
theorem d_Fi_findByCues_59 : decode prog_3_method_9_code 59 = .ok (.lcmp, 1) := by decide +kernel
theorem d_Fi_findByCues_60 : decode prog_3_method_9_code 60 = .ok (.ifCond .ne 32, 3) := by decide +kernel
theorem d_Fi_findByCues_63 : decode prog_3_method_9_code 63 = .ok (.aload_n 0, 1) := by decide +kernel
theorem d_Fi_findByCues_64 : decode prog_3_method_9_code 64 = .ok (.aload 7, 2) := by decide +kernel
theorem d_Fi_findByCues_66 : decode prog_3_method_9_code 66 = .ok (.getstatic 72, 3) := by decide +kernel
theorem d_Fi_findByCues_69 : decode prog_3_method_9_code 69 = .ok (.invokevirtual 106, 3) := by decide +kernel
theorem d_Fi_findByCues_72 : decode prog_3_method_9_code 72 = .ok (.lload_n 3, 1) := by decide +kernel
theorem d_Fi_findByCues_73 : decode prog_3_method_9_code 73 = .ok (.lcmp, 1) := by decide +kernel
theorem d_Fi_findByCues_74 : decode prog_3_method_9_code 74 = .ok (.ifCond .gt 18, 3) := by decide +kernel
theorem d_Fi_findByCues_77 : decode prog_3_method_9_code 77 = .ok (.aload_n 0, 1) := by decide +kernel
theorem d_Fi_findByCues_78 : decode prog_3_method_9_code 78 = .ok (.aload_n 1, 1) := by decide +kernel
theorem d_Fi_findByCues_79 : decode prog_3_method_9_code 79 = .ok (.aload_n 0, 1) := by decide +kernel
theorem d_Fi_findByCues_80 : decode prog_3_method_9_code 80 = .ok (.aload 7, 2) := by decide +kernel
theorem d_Fi_findByCues_82 : decode prog_3_method_9_code 82 = .ok (.getstatic 89, 3) := by decide +kernel
theorem d_Fi_findByCues_85 : decode prog_3_method_9_code 85 = .ok (.invokevirtual 106, 3) := by decide +kernel
theorem d_Fi_findByCues_88 : decode prog_3_method_9_code 88 = .ok (.invokevirtual 110, 3) := by decide +kernel
theorem d_Fi_findByCues_91 : decode prog_3_method_9_code 91 = .ok (.ireturn, 1) := by decide +kernel
theorem d_Fi_findByCues_92 : decode prog_3_method_9_code 92 = .ok (.iinc 6 (-1), 3) := by decide +kernel
theorem d_Fi_findByCues_95 : decode prog_3_method_9_code 95 = .ok (.goto (-79), 3) := by decide +kernel
theorem d_Fi_findByCues_98 : decode prog_3_method_9_code 98 = .ok (.iconst (-1), 1) := by decide +kernel
theorem d_Fi_findByCues_99 : decode prog_3_method_9_code 99 = .ok (.ireturn, 1) := by decide +kernel
theorem d_Fi_blockWithBefore_0 : decode prog_3_method_10_code 0 = .ok (.lconst 0, 1) := by decide +kernel
theorem d_Fi_blockWithBefore_1 : decode prog_3_method_10_code 1 = .ok (.lstore 4, 2) := by decide +kernel
theorem d_Fi_blockWithBefore_3 : decode prog_3_method_10_code 3 = .ok (.aload_n 0, 1) := by decide +kernel
theorem d_Fi_blockWithBefore_4 : decode prog_3_method_10_code 4 = .ok (.getfield 9, 3) := by decide +kernel
theorem d_Fi_blockWithBefore_7 : decode prog_3_method_10_code 7 = .ok (.aload_n 1, 1) := by decide +kernel
theorem d_Fi_blockWithBefore_8 : decode prog_3_method_10_code 8 = .ok (.invokevirtual 39, 3) := by decide +kernel
theorem d_Fi_blockWithBefore_11 : decode prog_3_method_10_code 11 = .ok (.istore 6, 2) := by decide +kernel
theorem d_Fi_blockWithBefore_13 : decode prog_3_method_10_code 13 = .ok (.aload_n 1, 1) := by decide +kernel
theorem d_Fi_blockWithBefore_14 : decode prog_3_method_10_code 14 = .ok (.getfield 42, 3) := by decide +kernel
theorem d_Fi_blockWithBefore_17 : decode prog_3_method_10_code 17 = .ok (.iconst 1, 1) := by decide +kernel
theorem d_Fi_blockWithBefore_18 : decode prog_3_method_10_code 18 = .ok (.iadd, 1) := by decide +kernel
theorem d_Fi_blockWithBefore_19 : decode prog_3_method_10_code 19 = .ok (.istore 7, 2) := by decide +kernel
theorem d_Fi_blockWithBefore_21 : decode prog_3_method_10_code 21 = .ok (.iload 7, 2) := by decide +kernel
theorem d_Fi_blockWithBefore_23 : decode prog_3_method_10_code 23 = .ok (.iload 6, 2) := by decide +kernel
theorem d_Fi_blockWithBefore_25 : decode prog_3_method_10_code 25 = .ok (.if_icmp .ge 44, 3) := by decide +kernel
theorem d_Fi_blockWithBefore_28 : decode prog_3_method_10_code 28 = .ok (.aload_n 0, 1) := by decide +kernel
theorem d_Fi_blockWithBefore_29 : decode prog_3_method_10_code 29 = .ok (.getfield 9, 3) := by decide +kernel
theorem d_Fi_blockWithBefore_32 : decode prog_3_method_10_code 32 = .ok (.getfield 47, 3) := by decide +kernel
theorem d_Fi_blockWithBefore_35 : decode prog_3_method_10_code 35 = .ok (.iload 7, 2) := by decide +kernel
theorem d_Fi_blockWithBefore_37 : decode prog_3_method_10_code 37 = .ok (.aaload, 1) := by decide +kernel
theorem d_Fi_blockWithBefore_38 : decode prog_3_method_10_code 38 = .ok (.getfield 51, 3) := by decide +kernel
theorem d_Fi_blockWithBefore_41 : decode prog_3_method_10_code 41 = .ok (.getstatic 54, 3) := by decide +kernel
theorem d_Fi_blockWithBefore_44 : decode prog_3_method_10_code 44 = .ok (.if_acmp .ne 19, 3) := by decide +kernel
theorem d_Fi_blockWithBefore_47 : decode prog_3_method_10_code 47 = .ok (.lload 4, 2) := by decide +kernel
theorem d_Fi_blockWithBefore_49 : decode prog_3_method_10_code 49 = .ok (.lload_n 2, 1) := by decide +kernel
theorem d_Fi_blockWithBefore_50 : decode prog_3_method_10_code 50 = .ok (.lcmp, 1) := by decide +kernel
theorem d_Fi_blockWithBefore_51 : decode prog_3_method_10_code 51 = .ok (.ifCond .ne 6, 3) := by decide +kernel
theorem d_Fi_blockWithBefore_54 : decode prog_3_method_10_code 54 = .ok (.iload 7, 2) := by decide +kernel
theorem d_Fi_blockWithBefore_56 : decode prog_3_method_10_code 56 = .ok (.ireturn, 1) := by decide +kernel
theorem d_Fi_blockWithBefore_57 : decode prog_3_method_10_code 57 = .ok (.lload 4, 2) := by decide +kernel
theorem d_Fi_blockWithBefore_59 : decode prog_3_method_10_code 59 = .ok (.lconst 1, 1) := by decide +kernel
theorem d_Fi_blockWithBefore_60 : decode prog_3_method_10_code 60 = .ok (.ladd, 1) := by decide +kernel
theorem d_Fi_blockWithBefore_61 : decode prog_3_method_10_code 61 = .ok (.lstore 4, 2) := by decide +kernel
theorem d_Fi_blockWithBefore_63 : decode prog_3_method_10_code 63 = .ok (.iinc 7 1, 3) := by decide +kernel
theorem d_Fi_blockWithBefore_66 : decode prog_3_method_10_code 66 = .ok (.goto (-45), 3) := by decide +kernel
theorem d_Fi_blockWithBefore_69 : decode prog_3_method_10_code 69 = .ok (.iconst (-1), 1) := by decide +kernel
theorem d_Fi_blockWithBefore_70 : decode prog_3_method_10_code 70 = .ok (.ireturn, 1) := by decide +kernel
theorem d_Mo_init_0 : decode prog_11_method_1_code 0 = .ok (.aload_n 0, 1) := by decide +kernel
theorem d_Mo_init_1 : decode prog_11_method_1_code 1 = .ok (.invokespecial 1, 3) := by decide +kernel
theorem d_Mo_init_4 : decode prog_11_method_1_code 4 = .ok (.aload_n 0, 1) := by decide +kernel
theorem d_Mo_init_5 : decode prog_11_method_1_code 5 = .ok (.bipush 61, 2) := by decide +kernel
theorem d_Mo_init_7 : decode prog_11_method_1_code 7 = .ok (.newarray .int, 2) := by decide +kernel
theorem d_Mo_init_9 : decode prog_11_method_1_code 9 = .ok (.putfield 7, 3) := by decide +kernel
theorem d_Mo_init_12 : decode prog_11_method_1_code 12 = .ok (.aload_n 0, 1) := by decide +kernel
theorem d_Mo_init_13 : decode prog_11_method_1_code 13 = .ok (.bipush 61, 2) := by decide +kernel
theorem d_Mo_init_15 : decode prog_11_method_1_code 15 = .ok (.newarray .int, 2) := by decide +kernel
theorem d_Mo_init_17 : decode prog_11_method_1_code 17 = .ok (.putfield 13, 3) := by decide +kernel
theorem d_Mo_init_20 : decode prog_11_method_1_code 20 = .ok (.aload_n 0, 1) := by decide +kernel
theorem d_Mo_init_21 : decode prog_11_method_1_code 21 = .ok (.bipush 61, 2) := by decide +kernel
theorem d_Mo_init_23 : decode prog_11_method_1_code 23 = .ok (.newarray .long, 2) := by decide +kernel
theorem d_Mo_init_25 : decode prog_11_method_1_code 25 = .ok (.putfield 16, 3) := by decide +kernel
theorem d_Mo_init_28 : decode prog_11_method_1_code 28 = .ok (.aload_n 0, 1) := by decide +kernel
theorem d_Mo_init_29 : decode prog_11_method_1_code 29 = .ok (.bipush 61, 2) := by decide +kernel
theorem d_Mo_init_31 : decode prog_11_method_1_code 31 = .ok (.newarray .int, 2) := by decide +kernel
theorem d_Mo_init_33 : decode prog_11_method_1_code 33 = .ok (.putfield 20, 3) := by decide +kernel
theorem d_Mo_init_36 : decode prog_11_method_1_code 36 = .ok (.aload_n 0, 1) := by decide +kernel
theorem d_Mo_init_37 : decode prog_11_method_1_code 37 = .ok (.sipush 976, 3) := by decide +kernel
theorem d_Mo_init_40 : decode prog_11_method_1_code 40 = .ok (.newarray .int, 2) := by decide +kernel
theorem d_Mo_init_42 : decode prog_11_method_1_code 42 = .ok (.putfield 23, 3) := by decide +kernel
theorem d_Mo_init_45 : decode prog_11_method_1_code 45 = .ok (.aload_n 0, 1) := by decide +kernel
theorem d_Mo_init_46 : decode prog_11_method_1_code 46 = .ok (.bipush 61, 2) := by decide +kernel
theorem d_Mo_init_48 : decode prog_11_method_1_code 48 = .ok (.newarray .int, 2) := by decide +kernel
theorem d_Mo_init_50 : decode prog_11_method_1_code 50 = .ok (.putfield 26, 3) := by decide +kernel
theorem d_Mo_init_53 : decode prog_11_method_1_code 53 = .ok (.aload_n 0, 1) := by decide +kernel
theorem d_Mo_init_54 : decode prog_11_method_1_code 54 = .ok (.bipush 61, 2) := by decide +kernel
theorem d_Mo_init_56 : decode prog_11_method_1_code 56 = .ok (.newarray .int, 2) := by decide +kernel
theorem d_Mo_init_58 : decode prog_11_method_1_code 58 = .ok (.putfield 29, 3) := by decide +kernel
theorem d_Mo_init_61 : decode prog_11_method_1_code 61 = .ok (.aload_n 0, 1) := by decide +kernel
theorem d_Mo_init_62 : decode prog_11_method_1_code 62 = .ok (.bipush 61, 2) := by decide +kernel
theorem d_Mo_init_64 : decode prog_11_method_1_code 64 = .ok (.newarray .boolean, 2) := by decide +kernel
theorem d_Mo_init_66 : decode prog_11_method_1_code 66 = .ok (.putfield 32, 3) := by decide +kernel
theorem d_Mo_init_69 : decode prog_11_method_1_code 69 = .ok (.aload_n 0, 1) := by decide +kernel
theorem d_Mo_init_70 : decode prog_11_method_1_code 70 = .ok (.bipush 61, 2) := by decide +kernel
theorem d_Mo_init_72 : decode prog_11_method_1_code 72 = .ok (.newarray .int, 2) := by decide +kernel
theorem d_Mo_init_74 : decode prog_11_method_1_code 74 = .ok (.putfield 36, 3) := by decide +kernel
theorem d_Mo_init_77 : decode prog_11_method_1_code 77 = .ok (.aload_n 0, 1) := by decide +kernel
theorem d_Mo_init_78 : decode prog_11_method_1_code 78 = .ok (.sipush 488, 3) := by decide +kernel
theorem d_Mo_init_81 : decode prog_11_method_1_code 81 = .ok (.newarray .int, 2) := by decide +kernel
theorem d_Mo_init_83 : decode prog_11_method_1_code 83 = .ok (.putfield 39, 3) := by decide +kernel
theorem d_Mo_init_86 : decode prog_11_method_1_code 86 = .ok (.aload_n 0, 1) := by decide +kernel
theorem d_Mo_init_87 : decode prog_11_method_1_code 87 = .ok (.sipush 488, 3) := by decide +kernel
theorem d_Mo_init_90 : decode prog_11_method_1_code 90 = .ok (.newarray .int, 2) := by decide +kernel
theorem d_Mo_init_92 : decode prog_11_method_1_code 92 = .ok (.putfield 42, 3) := by decide +kernel
theorem d_Mo_init_95 : decode prog_11_method_1_code 95 = .ok (.aload_n 0, 1) := by decide +kernel
theorem d_Mo_init_96 : decode prog_11_method_1_code 96 = .ok (.sipush 1300, 3) := by decide +kernel
theorem d_Mo_init_99 : decode prog_11_method_1_code 99 = .ok (.newarray .int, 2) := by decide +kernel
theorem d_Mo_init_101 : decode prog_11_method_1_code 101 = .ok (.putfield 45, 3) := by decide +kernel
theorem d_Mo_init_104 : decode prog_11_method_1_code 104 = .ok (.aload_n 0, 1) := by decide +kernel
theorem d_Mo_init_105 : decode prog_11_method_1_code 105 = .ok (.bipush 8, 2) := by decide +kernel
theorem d_Mo_init_107 : decode prog_11_method_1_code 107 = .ok (.newarray .int, 2) := by decide +kernel
theorem d_Mo_init_109 : decode prog_11_method_1_code 109 = .ok (.putfield 48, 3) := by decide +kernel
theorem d_Mo_init_112 : decode prog_11_method_1_code 112 = .ok (.aload_n 0, 1) := by decide +kernel
theorem d_Mo_init_113 : decode prog_11_method_1_code 113 = .ok (.bipush 8, 2) := by decide +kernel
theorem d_Mo_init_115 : decode prog_11_method_1_code 115 = .ok (.newarray .int, 2) := by decide +kernel
theorem d_Mo_init_117 : decode prog_11_method_1_code 117 = .ok (.putfield 51, 3) := by decide +kernel
theorem d_Mo_init_120 : decode prog_11_method_1_code 120 = .ok (.aload_n 0, 1) := by decide +kernel
theorem d_Mo_init_121 : decode prog_11_method_1_code 121 = .ok (.sipush 640, 3) := by decide +kernel
theorem d_Mo_init_124 : decode prog_11_method_1_code 124 = .ok (.newarray .int, 2) := by decide +kernel
theorem d_Mo_init_126 : decode prog_11_method_1_code 126 = .ok (.putfield 54, 3) := by decide +kernel
theorem d_Mo_init_129 : decode prog_11_method_1_code 129 = .ok (.aload_n 0, 1) := by decide +kernel
theorem d_Mo_init_130 : decode prog_11_method_1_code 130 = .ok (.sipush 700, 3) := by decide +kernel
theorem d_Mo_init_133 : decode prog_11_method_1_code 133 = .ok (.newarray .int, 2) := by decide +kernel
theorem d_Mo_init_135 : decode prog_11_method_1_code 135 = .ok (.putfield 57, 3) := by decide +kernel
theorem d_Mo_init_138 : decode prog_11_method_1_code 138 = .ok (.aload_n 0, 1) := by decide +kernel
theorem d_Mo_init_139 : decode prog_11_method_1_code 139 = .ok (.iconst (-1), 1) := by decide +kernel
theorem d_Mo_init_140 : decode prog_11_method_1_code 140 = .ok (.putfield 60, 3) := by decide +kernel
theorem d_Mo_init_143 : decode prog_11_method_1_code 143 = .ok (.aload_n 0, 1) := by decide +kernel
theorem d_Mo_init_144 : decode prog_11_method_1_code 144 = .ok (.bipush 8, 2) := by decide +kernel
theorem d_Mo_init_146 : decode prog_11_method_1_code 146 = .ok (.newarray .int, 2) := by decide +kernel
theorem d_Mo_init_148 : decode prog_11_method_1_code 148 = .ok (.putfield 64, 3) := by decide +kernel
theorem d_Mo_init_151 : decode prog_11_method_1_code 151 = .ok (.aload_n 0, 1) := by decide +kernel
theorem d_Mo_init_152 : decode prog_11_method_1_code 152 = .ok (.bipush 8, 2) := by decide +kernel
theorem d_Mo_init_154 : decode prog_11_method_1_code 154 = .ok (.newarray .int, 2) := by decide +kernel
theorem d_Mo_init_156 : decode prog_11_method_1_code 156 = .ok (.putfield 67, 3) := by decide +kernel
theorem d_Mo_init_159 : decode prog_11_method_1_code 159 = .ok (.aload_n 0, 1) := by decide +kernel
theorem d_Mo_init_160 : decode prog_11_method_1_code 160 = .ok (.bipush 8, 2) := by decide +kernel
theorem d_Mo_init_162 : decode prog_11_method_1_code 162 = .ok (.newarray .boolean, 2) := by decide +kernel
theorem d_Mo_init_164 : decode prog_11_method_1_code 164 = .ok (.putfield 70, 3) := by decide +kernel
theorem d_Mo_init_167 : decode prog_11_method_1_code 167 = .ok (.aload_n 0, 1) := by decide +kernel
theorem d_Mo_init_168 : decode prog_11_method_1_code 168 = .ok (.bipush 61, 2) := by decide +kernel
theorem d_Mo_init_170 : decode prog_11_method_1_code 170 = .ok (.newarray .int, 2) := by decide +kernel
theorem d_Mo_init_172 : decode prog_11_method_1_code 172 = .ok (.putfield 73, 3) := by decide +kernel
theorem d_Mo_init_175 : decode prog_11_method_1_code 175 = .ok (.aload_n 0, 1) := by decide +kernel
theorem d_Mo_init_176 : decode prog_11_method_1_code 176 = .ok (.bipush 61, 2) := by decide +kernel
theorem d_Mo_init_178 : decode prog_11_method_1_code 178 = .ok (.newarray .int, 2) := by decide +kernel
theorem d_Mo_init_180 : decode prog_11_method_1_code 180 = .ok (.putfield 76, 3) := by decide +kernel
theorem d_Mo_init_183 : decode prog_11_method_1_code 183 = .ok (.return_, 1) := by decide +kernel
theorem d_Mo_kindOf_0 : decode prog_11_method_2_code 0 = .ok (.iload_n 0, 1) := by decide +kernel
theorem d_Mo_kindOf_1 : decode prog_11_method_2_code 1 = .ok (.lookupswitch 151 #[(163, 145), (174, 139), (179, 141), (187, 139), (191, 147), (215, 141), (231, 141), (236, 149), (241, 141), (247, 141), (17026, 143), (17030, 141), (21358, 143), (408125543, 139), (440786851, 139), (524531317, 139)], 139) := by decide +kernel
theorem d_Mo_kindOf_140 : decode prog_11_method_2_code 140 = .ok (.iconst 0, 1) := by decide +kernel
theorem d_Mo_kindOf_141 : decode prog_11_method_2_code 141 = .ok (.ireturn, 1) := by decide +kernel
theorem d_Mo_kindOf_142 : decode prog_11_method_2_code 142 = .ok (.iconst 1, 1) := by decide +kernel
theorem d_Mo_kindOf_143 : decode prog_11_method_2_code 143 = .ok (.ireturn, 1) := by decide +kernel
theorem d_Mo_kindOf_144 : decode prog_11_method_2_code 144 = .ok (.iconst 2, 1) := by decide +kernel
theorem d_Mo_kindOf_145 : decode prog_11_method_2_code 145 = .ok (.ireturn, 1) := by decide +kernel
theorem d_Mo_kindOf_146 : decode prog_11_method_2_code 146 = .ok (.iconst 3, 1) := by decide +kernel
theorem d_Mo_kindOf_147 : decode prog_11_method_2_code 147 = .ok (.ireturn, 1) := by decide +kernel
theorem d_Mo_kindOf_148 : decode prog_11_method_2_code 148 = .ok (.iconst 4, 1) := by decide +kernel
theorem d_Mo_kindOf_149 : decode prog_11_method_2_code 149 = .ok (.ireturn, 1) := by decide +kernel
theorem d_Mo_kindOf_150 : decode prog_11_method_2_code 150 = .ok (.iconst 5, 1) := by decide +kernel
theorem d_Mo_kindOf_151 : decode prog_11_method_2_code 151 = .ok (.ireturn, 1) := by decide +kernel
theorem d_Mo_kindOf_152 : decode prog_11_method_2_code 152 = .ok (.bipush 6, 2) := by decide +kernel
theorem d_Mo_kindOf_154 : decode prog_11_method_2_code 154 = .ok (.ireturn, 1) := by decide +kernel
theorem d_Mo_stands_0 : decode prog_11_method_3_code 0 = .ok (.iload_n 0, 1) := by decide +kernel
theorem d_Mo_stands_1 : decode prog_11_method_3_code 1 = .ok (.lookupswitch 229 #[(163, 178), (174, 153), (179, 190), (187, 153), (191, 203), (215, 165), (231, 178), (241, 190), (247, 190), (17026, 141), (17030, 141), (21358, 165), (408125543, 131), (440786851, 131), (524531317, 153)], 131) := by decide +kernel
theorem d_Mo_stands_132 : decode prog_11_method_3_code 132 = .ok (.iload_n 1, 1) := by decide +kernel
theorem d_Mo_stands_133 : decode prog_11_method_3_code 133 = .ok (.ifCond .ne 7, 3) := by decide +kernel
theorem d_Mo_stands_136 : decode prog_11_method_3_code 136 = .ok (.iconst 1, 1) := by decide +kernel
theorem d_Mo_stands_137 : decode prog_11_method_3_code 137 = .ok (.goto 4, 3) := by decide +kernel
theorem d_Mo_stands_140 : decode prog_11_method_3_code 140 = .ok (.iconst 0, 1) := by decide +kernel
theorem d_Mo_stands_141 : decode prog_11_method_3_code 141 = .ok (.ireturn, 1) := by decide +kernel
theorem d_Mo_stands_142 : decode prog_11_method_3_code 142 = .ok (.iload_n 1, 1) := by decide +kernel
theorem d_Mo_stands_143 : decode prog_11_method_3_code 143 = .ok (.ldc 79, 2) := by decide +kernel
theorem d_Mo_stands_145 : decode prog_11_method_3_code 145 = .ok (.if_icmp .ne 7, 3) := by decide +kernel
theorem d_Mo_stands_148 : decode prog_11_method_3_code 148 = .ok (.iconst 1, 1) := by decide +kernel
theorem d_Mo_stands_149 : decode prog_11_method_3_code 149 = .ok (.goto 4, 3) := by decide +kernel
theorem d_Mo_stands_152 : decode prog_11_method_3_code 152 = .ok (.iconst 0, 1) := by decide +kernel
theorem d_Mo_stands_153 : decode prog_11_method_3_code 153 = .ok (.ireturn, 1) := by decide +kernel
theorem d_Mo_stands_154 : decode prog_11_method_3_code 154 = .ok (.iload_n 1, 1) := by decide +kernel
theorem d_Mo_stands_155 : decode prog_11_method_3_code 155 = .ok (.ldc 80, 2) := by decide +kernel
theorem d_Mo_stands_157 : decode prog_11_method_3_code 157 = .ok (.if_icmp .ne 7, 3) := by decide +kernel
theorem d_Mo_stands_160 : decode prog_11_method_3_code 160 = .ok (.iconst 1, 1) := by decide +kernel
theorem d_Mo_stands_161 : decode prog_11_method_3_code 161 = .ok (.goto 4, 3) := by decide +kernel
theorem d_Mo_stands_164 : decode prog_11_method_3_code 164 = .ok (.iconst 0, 1) := by decide +kernel
theorem d_Mo_stands_165 : decode prog_11_method_3_code 165 = .ok (.ireturn, 1) := by decide +kernel
theorem d_Mo_stands_166 : decode prog_11_method_3_code 166 = .ok (.iload_n 1, 1) := by decide +kernel
theorem d_Mo_stands_167 : decode prog_11_method_3_code 167 = .ok (.sipush 174, 3) := by decide +kernel
theorem d_Mo_stands_170 : decode prog_11_method_3_code 170 = .ok (.if_icmp .ne 7, 3) := by decide +kernel
theorem d_Mo_stands_173 : decode prog_11_method_3_code 173 = .ok (.iconst 1, 1) := by decide +kernel
theorem d_Mo_stands_174 : decode prog_11_method_3_code 174 = .ok (.goto 4, 3) := by decide +kernel
theorem d_Mo_stands_177 : decode prog_11_method_3_code 177 = .ok (.iconst 0, 1) := by decide +kernel
theorem d_Mo_stands_178 : decode prog_11_method_3_code 178 = .ok (.ireturn, 1) := by decide +kernel
theorem d_Mo_stands_179 : decode prog_11_method_3_code 179 = .ok (.iload_n 1, 1) := by decide +kernel
theorem d_Mo_stands_180 : decode prog_11_method_3_code 180 = .ok (.ldc 81, 2) := by decide +kernel
theorem d_Mo_stands_182 : decode prog_11_method_3_code 182 = .ok (.if_icmp .ne 7, 3) := by decide +kernel
theorem d_Mo_stands_185 : decode prog_11_method_3_code 185 = .ok (.iconst 1, 1) := by decide +kernel
theorem d_Mo_stands_186 : decode prog_11_method_3_code 186 = .ok (.goto 4, 3) := by decide +kernel
theorem d_Mo_stands_189 : decode prog_11_method_3_code 189 = .ok (.iconst 0, 1) := by decide +kernel
theorem d_Mo_stands_190 : decode prog_11_method_3_code 190 = .ok (.ireturn, 1) := by decide +kernel
theorem d_Mo_stands_191 : decode prog_11_method_3_code 191 = .ok (.iload_n 1, 1) := by decide +kernel
theorem d_Mo_stands_192 : decode prog_11_method_3_code 192 = .ok (.sipush 187, 3) := by decide +kernel
theorem d_Mo_stands_195 : decode prog_11_method_3_code 195 = .ok (.if_icmp .ne 7, 3) := by decide +kernel
theorem d_Mo_stands_198 : decode prog_11_method_3_code 198 = .ok (.iconst 1, 1) := by decide +kernel
theorem d_Mo_stands_199 : decode prog_11_method_3_code 199 = .ok (.goto 4, 3) := by decide +kernel
theorem d_Mo_stands_202 : decode prog_11_method_3_code 202 = .ok (.iconst 0, 1) := by decide +kernel
theorem d_Mo_stands_203 : decode prog_11_method_3_code 203 = .ok (.ireturn, 1) := by decide +kernel
theorem d_Mo_stands_204 : decode prog_11_method_3_code 204 = .ok (.iload_n 1, 1) := by decide +kernel
theorem d_Mo_stands_205 : decode prog_11_method_3_code 205 = .ok (.ldc 79, 2) := by decide +kernel
theorem d_Mo_stands_207 : decode prog_11_method_3_code 207 = .ok (.if_icmp .eq 17, 3) := by decide +kernel
theorem d_Mo_stands_210 : decode prog_11_method_3_code 210 = .ok (.iload_n 1, 1) := by decide +kernel
theorem d_Mo_stands_211 : decode prog_11_method_3_code 211 = .ok (.sipush 174, 3) := by decide +kernel
theorem d_Mo_stands_214 : decode prog_11_method_3_code 214 = .ok (.if_icmp .eq 10, 3) := by decide +kernel
theorem d_Mo_stands_217 : decode prog_11_method_3_code 217 = .ok (.iload_n 1, 1) := by decide +kernel
theorem d_Mo_stands_218 : decode prog_11_method_3_code 218 = .ok (.sipush 187, 3) := by decide +kernel
theorem d_Mo_stands_221 : decode prog_11_method_3_code 221 = .ok (.if_icmp .ne 7, 3) := by decide +kernel
theorem d_Mo_stands_224 : decode prog_11_method_3_code 224 = .ok (.iconst 1, 1) := by decide +kernel
theorem d_Mo_stands_225 : decode prog_11_method_3_code 225 = .ok (.goto 4, 3) := by decide +kernel
theorem d_Mo_stands_228 : decode prog_11_method_3_code 228 = .ok (.iconst 0, 1) := by decide +kernel
theorem d_Mo_stands_229 : decode prog_11_method_3_code 229 = .ok (.ireturn, 1) := by decide +kernel
theorem d_Mo_stands_230 : decode prog_11_method_3_code 230 = .ok (.iload_n 1, 1) := by decide +kernel
theorem d_Mo_stands_231 : decode prog_11_method_3_code 231 = .ok (.ifCond .eq 10, 3) := by decide +kernel
theorem d_Mo_stands_234 : decode prog_11_method_3_code 234 = .ok (.iload_n 1, 1) := by decide +kernel
theorem d_Mo_stands_235 : decode prog_11_method_3_code 235 = .ok (.invokestatic 82, 3) := by decide +kernel
theorem d_Mo_stands_238 : decode prog_11_method_3_code 238 = .ok (.ifCond .ne 7, 3) := by decide +kernel
theorem d_Mo_stands_241 : decode prog_11_method_3_code 241 = .ok (.iconst 1, 1) := by decide +kernel
theorem d_Mo_stands_242 : decode prog_11_method_3_code 242 = .ok (.goto 4, 3) := by decide +kernel
theorem d_Mo_stands_245 : decode prog_11_method_3_code 245 = .ok (.iconst 0, 1) := by decide +kernel
theorem d_Mo_stands_246 : decode prog_11_method_3_code 246 = .ok (.ireturn, 1) := by decide +kernel
theorem d_Mo_isElement_0 : decode prog_11_method_4_code 0 = .ok (.iload_n 1, 1) := by decide +kernel
theorem d_Mo_isElement_1 : decode prog_11_method_4_code 1 = .ok (.ifCond .lt 15, 3) := by decide +kernel
theorem d_Mo_isElement_4 : decode prog_11_method_4_code 4 = .ok (.iload_n 1, 1) := by decide +kernel
theorem d_Mo_isElement_5 : decode prog_11_method_4_code 5 = .ok (.aload_n 0, 1) := by decide +kernel
theorem d_Mo_isElement_6 : decode prog_11_method_4_code 6 = .ok (.getfield 86, 3) := by decide +kernel
theorem d_Mo_isElement_9 : decode prog_11_method_4_code 9 = .ok (.if_icmp .ge 7, 3) := by decide +kernel
theorem d_Mo_isElement_12 : decode prog_11_method_4_code 12 = .ok (.iconst 1, 1) := by decide +kernel
theorem d_Mo_isElement_13 : decode prog_11_method_4_code 13 = .ok (.goto 4, 3) := by decide +kernel
theorem d_Mo_isElement_16 : decode prog_11_method_4_code 16 = .ok (.iconst 0, 1) := by decide +kernel
theorem d_Mo_isElement_17 : decode prog_11_method_4_code 17 = .ok (.ireturn, 1) := by decide +kernel
theorem d_Mo_is_0 : decode prog_11_method_5_code 0 = .ok (.aload_n 0, 1) := by decide +kernel
theorem d_Mo_is_1 : decode prog_11_method_5_code 1 = .ok (.iload_n 1, 1) := by decide +kernel
theorem d_Mo_is_2 : decode prog_11_method_5_code 2 = .ok (.invokevirtual 89, 3) := by decide +kernel
theorem d_Mo_is_5 : decode prog_11_method_5_code 5 = .ok (.ifCond .eq 17, 3) := by decide +kernel
theorem d_Mo_is_8 : decode prog_11_method_5_code 8 = .ok (.aload_n 0, 1) := by decide +kernel
theorem d_Mo_is_9 : decode prog_11_method_5_code 9 = .ok (.getfield 7, 3) := by decide +kernel
theorem d_Mo_is_12 : decode prog_11_method_5_code 12 = .ok (.iload_n 1, 1) := by decide +kernel
theorem d_Mo_is_13 : decode prog_11_method_5_code 13 = .ok (.iaload, 1) := by decide +kernel
theorem d_Mo_is_14 : decode prog_11_method_5_code 14 = .ok (.iload_n 2, 1) := by decide +kernel
theorem d_Mo_is_15 : decode prog_11_method_5_code 15 = .ok (.if_icmp .ne 7, 3) := by decide +kernel
theorem d_Mo_is_18 : decode prog_11_method_5_code 18 = .ok (.iconst 1, 1) := by decide +kernel
theorem d_Mo_is_19 : decode prog_11_method_5_code 19 = .ok (.goto 4, 3) := by decide +kernel
theorem d_Mo_is_22 : decode prog_11_method_5_code 22 = .ok (.iconst 0, 1) := by decide +kernel
theorem d_Mo_is_23 : decode prog_11_method_5_code 23 = .ok (.ireturn, 1) := by decide +kernel
theorem d_Mo_isKind_0 : decode prog_11_method_6_code 0 = .ok (.aload_n 0, 1) := by decide +kernel
theorem d_Mo_isKind_1 : decode prog_11_method_6_code 1 = .ok (.iload_n 1, 1) := by decide +kernel
theorem d_Mo_isKind_2 : decode prog_11_method_6_code 2 = .ok (.invokevirtual 89, 3) := by decide +kernel
theorem d_Mo_isKind_5 : decode prog_11_method_6_code 5 = .ok (.ifCond .eq 20, 3) := by decide +kernel
theorem d_Mo_isKind_8 : decode prog_11_method_6_code 8 = .ok (.aload_n 0, 1) := by decide +kernel
theorem d_Mo_isKind_9 : decode prog_11_method_6_code 9 = .ok (.getfield 7, 3) := by decide +kernel
theorem d_Mo_isKind_12 : decode prog_11_method_6_code 12 = .ok (.iload_n 1, 1) := by decide +kernel
theorem d_Mo_isKind_13 : decode prog_11_method_6_code 13 = .ok (.iaload, 1) := by decide +kernel
theorem d_Mo_isKind_14 : decode prog_11_method_6_code 14 = .ok (.invokestatic 82, 3) := by decide +kernel
theorem d_Mo_isKind_17 : decode prog_11_method_6_code 17 = .ok (.iload_n 2, 1) := by decide +kernel
theorem d_Mo_isKind_18 : decode prog_11_method_6_code 18 = .ok (.if_icmp .ne 7, 3) := by decide +kernel
theorem d_Mo_isKind_21 : decode prog_11_method_6_code 21 = .ok (.iconst 1, 1) := by decide +kernel
theorem d_Mo_isKind_22 : decode prog_11_method_6_code 22 = .ok (.goto 4, 3) := by decide +kernel
theorem d_Mo_isKind_25 : decode prog_11_method_6_code 25 = .ok (.iconst 0, 1) := by decide +kernel
theorem d_Mo_isKind_26 : decode prog_11_method_6_code 26 = .ok (.ireturn, 1) := by decide +kernel
theorem d_Mo_children_0 : decode prog_11_method_7_code 0 = .ok (.iconst 0, 1) := by decide +kernel
theorem d_Mo_children_1 : decode prog_11_method_7_code 1 = .ok (.istore_n 2, 1) := by decide +kernel
theorem d_Mo_children_2 : decode prog_11_method_7_code 2 = .ok (.iconst 0, 1) := by decide +kernel
theorem d_Mo_children_3 : decode prog_11_method_7_code 3 = .ok (.istore_n 3, 1) := by decide +kernel
theorem d_Mo_children_4 : decode prog_11_method_7_code 4 = .ok (.iload_n 3, 1) := by decide +kernel
theorem d_Mo_children_5 : decode prog_11_method_7_code 5 = .ok (.aload_n 0, 1) := by decide +kernel
theorem d_Mo_children_6 : decode prog_11_method_7_code 6 = .ok (.getfield 86, 3) := by decide +kernel
theorem d_Mo_children_9 : decode prog_11_method_7_code 9 = .ok (.if_icmp .ge 27, 3) := by decide +kernel
theorem d_Mo_children_12 : decode prog_11_method_7_code 12 = .ok (.aload_n 0, 1) := by decide +kernel
theorem d_Mo_children_13 : decode prog_11_method_7_code 13 = .ok (.getfield 13, 3) := by decide +kernel
theorem d_Mo_children_16 : decode prog_11_method_7_code 16 = .ok (.iload_n 3, 1) := by decide +kernel
theorem d_Mo_children_17 : decode prog_11_method_7_code 17 = .ok (.iaload, 1) := by decide +kernel
theorem d_Mo_children_18 : decode prog_11_method_7_code 18 = .ok (.iload_n 1, 1) := by decide +kernel
theorem d_Mo_children_19 : decode prog_11_method_7_code 19 = .ok (.if_icmp .ne 9, 3) := by decide +kernel
theorem d_Mo_children_22 : decode prog_11_method_7_code 22 = .ok (.iload_n 2, 1) := by decide +kernel
theorem d_Mo_children_23 : decode prog_11_method_7_code 23 = .ok (.iconst 1, 1) := by decide +kernel
theorem d_Mo_children_24 : decode prog_11_method_7_code 24 = .ok (.iadd, 1) := by decide +kernel
theorem d_Mo_children_25 : decode prog_11_method_7_code 25 = .ok (.goto 4, 3) := by decide +kernel
theorem d_Mo_children_28 : decode prog_11_method_7_code 28 = .ok (.iload_n 2, 1) := by decide +kernel
theorem d_Mo_children_29 : decode prog_11_method_7_code 29 = .ok (.istore_n 2, 1) := by decide +kernel
theorem d_Mo_children_30 : decode prog_11_method_7_code 30 = .ok (.iinc 3 1, 3) := by decide +kernel
theorem d_Mo_children_33 : decode prog_11_method_7_code 33 = .ok (.goto (-29), 3) := by decide +kernel
theorem d_Mo_children_36 : decode prog_11_method_7_code 36 = .ok (.iload_n 2, 1) := by decide +kernel
theorem d_Mo_children_37 : decode prog_11_method_7_code 37 = .ok (.ireturn, 1) := by decide +kernel
theorem d_Mo_child_0 : decode prog_11_method_8_code 0 = .ok (.iload_n 2, 1) := by decide +kernel
theorem d_Mo_child_1 : decode prog_11_method_8_code 1 = .ok (.istore_n 3, 1) := by decide +kernel
theorem d_Mo_child_2 : decode prog_11_method_8_code 2 = .ok (.iconst 0, 1) := by decide +kernel
theorem d_Mo_child_3 : decode prog_11_method_8_code 3 = .ok (.istore 4, 2) := by decide +kernel
theorem d_Mo_child_5 : decode prog_11_method_8_code 5 = .ok (.iload 4, 2) := by decide +kernel
theorem d_Mo_child_7 : decode prog_11_method_8_code 7 = .ok (.aload_n 0, 1) := by decide +kernel
theorem d_Mo_child_8 : decode prog_11_method_8_code 8 = .ok (.getfield 86, 3) := by decide +kernel
theorem d_Mo_child_11 : decode prog_11_method_8_code 11 = .ok (.if_icmp .ge 34, 3) := by decide +kernel
theorem d_Mo_child_14 : decode prog_11_method_8_code 14 = .ok (.iload_n 2, 1) := by decide +kernel
theorem d_Mo_child_15 : decode prog_11_method_8_code 15 = .ok (.ifCond .lt 30, 3) := by decide +kernel
theorem d_Mo_child_18 : decode prog_11_method_8_code 18 = .ok (.aload_n 0, 1) := by decide +kernel
theorem d_Mo_child_19 : decode prog_11_method_8_code 19 = .ok (.getfield 13, 3) := by decide +kernel
theorem d_Mo_child_22 : decode prog_11_method_8_code 22 = .ok (.iload 4, 2) := by decide +kernel
theorem d_Mo_child_24 : decode prog_11_method_8_code 24 = .ok (.iaload, 1) := by decide +kernel
theorem d_Mo_child_25 : decode prog_11_method_8_code 25 = .ok (.iload_n 1, 1) := by decide +kernel
theorem d_Mo_child_26 : decode prog_11_method_8_code 26 = .ok (.if_icmp .ne 13, 3) := by decide +kernel
theorem d_Mo_child_29 : decode prog_11_method_8_code 29 = .ok (.iload_n 3, 1) := by decide +kernel
theorem d_Mo_child_30 : decode prog_11_method_8_code 30 = .ok (.ifCond .ne 6, 3) := by decide +kernel
theorem d_Mo_child_33 : decode prog_11_method_8_code 33 = .ok (.iload 4, 2) := by decide +kernel
theorem d_Mo_child_35 : decode prog_11_method_8_code 35 = .ok (.ireturn, 1) := by decide +kernel
theorem d_Mo_child_36 : decode prog_11_method_8_code 36 = .ok (.iinc 3 (-1), 3) := by decide +kernel
theorem d_Mo_child_39 : decode prog_11_method_8_code 39 = .ok (.iinc 4 1, 3) := by decide +kernel
theorem d_Mo_child_42 : decode prog_11_method_8_code 42 = .ok (.goto (-37), 3) := by decide +kernel
theorem d_Mo_child_45 : decode prog_11_method_8_code 45 = .ok (.iconst (-1), 1) := by decide +kernel
theorem d_Mo_child_46 : decode prog_11_method_8_code 46 = .ok (.ireturn, 1) := by decide +kernel
theorem d_Mo_move_0 : decode prog_11_method_9_code 0 = .ok (.aload_n 0, 1) := by decide +kernel
theorem d_Mo_move_1 : decode prog_11_method_9_code 1 = .ok (.getfield 7, 3) := by decide +kernel
theorem d_Mo_move_4 : decode prog_11_method_9_code 4 = .ok (.iload_n 2, 1) := by decide +kernel
theorem d_Mo_move_5 : decode prog_11_method_9_code 5 = .ok (.aload_n 0, 1) := by decide +kernel
theorem d_Mo_move_6 : decode prog_11_method_9_code 6 = .ok (.getfield 7, 3) := by decide +kernel
theorem d_Mo_move_9 : decode prog_11_method_9_code 9 = .ok (.iload_n 1, 1) := by decide +kernel
theorem d_Mo_move_10 : decode prog_11_method_9_code 10 = .ok (.iaload, 1) := by decide +kernel
theorem d_Mo_move_11 : decode prog_11_method_9_code 11 = .ok (.iastore, 1) := by decide +kernel
theorem d_Mo_move_12 : decode prog_11_method_9_code 12 = .ok (.aload_n 0, 1) := by decide +kernel
theorem d_Mo_move_13 : decode prog_11_method_9_code 13 = .ok (.getfield 13, 3) := by decide +kernel
theorem d_Mo_move_16 : decode prog_11_method_9_code 16 = .ok (.iload_n 2, 1) := by decide +kernel
theorem d_Mo_move_17 : decode prog_11_method_9_code 17 = .ok (.aload_n 0, 1) := by decide +kernel
theorem d_Mo_move_18 : decode prog_11_method_9_code 18 = .ok (.getfield 13, 3) := by decide +kernel
theorem d_Mo_move_21 : decode prog_11_method_9_code 21 = .ok (.iload_n 1, 1) := by decide +kernel
theorem d_Mo_move_22 : decode prog_11_method_9_code 22 = .ok (.iaload, 1) := by decide +kernel
theorem d_Mo_move_23 : decode prog_11_method_9_code 23 = .ok (.iastore, 1) := by decide +kernel
theorem d_Mo_move_24 : decode prog_11_method_9_code 24 = .ok (.aload_n 0, 1) := by decide +kernel
theorem d_Mo_move_25 : decode prog_11_method_9_code 25 = .ok (.getfield 16, 3) := by decide +kernel
theorem d_Mo_move_28 : decode prog_11_method_9_code 28 = .ok (.iload_n 2, 1) := by decide +kernel
theorem d_Mo_move_29 : decode prog_11_method_9_code 29 = .ok (.aload_n 0, 1) := by decide +kernel
theorem d_Mo_move_30 : decode prog_11_method_9_code 30 = .ok (.getfield 16, 3) := by decide +kernel
theorem d_Mo_move_33 : decode prog_11_method_9_code 33 = .ok (.iload_n 1, 1) := by decide +kernel
theorem d_Mo_move_34 : decode prog_11_method_9_code 34 = .ok (.laload, 1) := by decide +kernel
theorem d_Mo_move_35 : decode prog_11_method_9_code 35 = .ok (.lastore, 1) := by decide +kernel
theorem d_Mo_move_36 : decode prog_11_method_9_code 36 = .ok (.aload_n 0, 1) := by decide +kernel
theorem d_Mo_move_37 : decode prog_11_method_9_code 37 = .ok (.getfield 20, 3) := by decide +kernel
theorem d_Mo_move_40 : decode prog_11_method_9_code 40 = .ok (.iload_n 2, 1) := by decide +kernel
theorem d_Mo_move_41 : decode prog_11_method_9_code 41 = .ok (.aload_n 0, 1) := by decide +kernel
theorem d_Mo_move_42 : decode prog_11_method_9_code 42 = .ok (.getfield 20, 3) := by decide +kernel
theorem d_Mo_move_45 : decode prog_11_method_9_code 45 = .ok (.iload_n 1, 1) := by decide +kernel
theorem d_Mo_move_46 : decode prog_11_method_9_code 46 = .ok (.iaload, 1) := by decide +kernel
theorem d_Mo_move_47 : decode prog_11_method_9_code 47 = .ok (.iastore, 1) := by decide +kernel
theorem d_Mo_move_48 : decode prog_11_method_9_code 48 = .ok (.aload_n 0, 1) := by decide +kernel
theorem d_Mo_move_49 : decode prog_11_method_9_code 49 = .ok (.getfield 26, 3) := by decide +kernel
theorem d_Mo_move_52 : decode prog_11_method_9_code 52 = .ok (.iload_n 2, 1) := by decide +kernel
theorem d_Mo_move_53 : decode prog_11_method_9_code 53 = .ok (.aload_n 0, 1) := by decide +kernel
theorem d_Mo_move_54 : decode prog_11_method_9_code 54 = .ok (.getfield 26, 3) := by decide +kernel
theorem d_Mo_move_57 : decode prog_11_method_9_code 57 = .ok (.iload_n 1, 1) := by decide +kernel
theorem d_Mo_move_58 : decode prog_11_method_9_code 58 = .ok (.iaload, 1) := by decide +kernel
theorem d_Mo_move_59 : decode prog_11_method_9_code 59 = .ok (.iastore, 1) := by decide +kernel
theorem d_Mo_move_60 : decode prog_11_method_9_code 60 = .ok (.aload_n 0, 1) := by decide +kernel
theorem d_Mo_move_61 : decode prog_11_method_9_code 61 = .ok (.getfield 29, 3) := by decide +kernel
theorem d_Mo_move_64 : decode prog_11_method_9_code 64 = .ok (.iload_n 2, 1) := by decide +kernel
theorem d_Mo_move_65 : decode prog_11_method_9_code 65 = .ok (.aload_n 0, 1) := by decide +kernel
theorem d_Mo_move_66 : decode prog_11_method_9_code 66 = .ok (.getfield 29, 3) := by decide +kernel
theorem d_Mo_move_69 : decode prog_11_method_9_code 69 = .ok (.iload_n 1, 1) := by decide +kernel
theorem d_Mo_move_70 : decode prog_11_method_9_code 70 = .ok (.iaload, 1) := by decide +kernel
theorem d_Mo_move_71 : decode prog_11_method_9_code 71 = .ok (.iastore, 1) := by decide +kernel
theorem d_Mo_move_72 : decode prog_11_method_9_code 72 = .ok (.aload_n 0, 1) := by decide +kernel
theorem d_Mo_move_73 : decode prog_11_method_9_code 73 = .ok (.getfield 32, 3) := by decide +kernel
theorem d_Mo_move_76 : decode prog_11_method_9_code 76 = .ok (.iload_n 2, 1) := by decide +kernel
theorem d_Mo_move_77 : decode prog_11_method_9_code 77 = .ok (.aload_n 0, 1) := by decide +kernel
theorem d_Mo_move_78 : decode prog_11_method_9_code 78 = .ok (.getfield 32, 3) := by decide +kernel
theorem d_Mo_move_81 : decode prog_11_method_9_code 81 = .ok (.iload_n 1, 1) := by decide +kernel
theorem d_Mo_move_82 : decode prog_11_method_9_code 82 = .ok (.baload, 1) := by decide +kernel
theorem d_Mo_move_83 : decode prog_11_method_9_code 83 = .ok (.bastore, 1) := by decide +kernel
theorem d_Mo_move_84 : decode prog_11_method_9_code 84 = .ok (.aload_n 0, 1) := by decide +kernel
theorem d_Mo_move_85 : decode prog_11_method_9_code 85 = .ok (.getfield 36, 3) := by decide +kernel
theorem d_Mo_move_88 : decode prog_11_method_9_code 88 = .ok (.iload_n 2, 1) := by decide +kernel
theorem d_Mo_move_89 : decode prog_11_method_9_code 89 = .ok (.aload_n 0, 1) := by decide +kernel
theorem d_Mo_move_90 : decode prog_11_method_9_code 90 = .ok (.getfield 36, 3) := by decide +kernel
theorem d_Mo_move_93 : decode prog_11_method_9_code 93 = .ok (.iload_n 1, 1) := by decide +kernel
theorem d_Mo_move_94 : decode prog_11_method_9_code 94 = .ok (.iaload, 1) := by decide +kernel
theorem d_Mo_move_95 : decode prog_11_method_9_code 95 = .ok (.iastore, 1) := by decide +kernel
theorem d_Mo_move_96 : decode prog_11_method_9_code 96 = .ok (.iconst 0, 1) := by decide +kernel
theorem d_Mo_move_97 : decode prog_11_method_9_code 97 = .ok (.istore_n 3, 1) := by decide +kernel
theorem d_Mo_move_98 : decode prog_11_method_9_code 98 = .ok (.iload_n 3, 1) := by decide +kernel
theorem d_Mo_move_99 : decode prog_11_method_9_code 99 = .ok (.bipush 16, 2) := by decide +kernel
theorem d_Mo_move_101 : decode prog_11_method_9_code 101 = .ok (.if_icmp .ge 31, 3) := by decide +kernel
theorem d_Mo_move_104 : decode prog_11_method_9_code 104 = .ok (.aload_n 0, 1) := by decide +kernel
theorem d_Mo_move_105 : decode prog_11_method_9_code 105 = .ok (.getfield 23, 3) := by decide +kernel
theorem d_Mo_move_108 : decode prog_11_method_9_code 108 = .ok (.bipush 16, 2) := by decide +kernel
theorem d_Mo_move_110 : decode prog_11_method_9_code 110 = .ok (.iload_n 2, 1) := by decide +kernel
theorem d_Mo_move_111 : decode prog_11_method_9_code 111 = .ok (.imul, 1) := by decide +kernel
theorem d_Mo_move_112 : decode prog_11_method_9_code 112 = .ok (.iload_n 3, 1) := by decide +kernel
theorem d_Mo_move_113 : decode prog_11_method_9_code 113 = .ok (.iadd, 1) := by decide +kernel
theorem d_Mo_move_114 : decode prog_11_method_9_code 114 = .ok (.aload_n 0, 1) := by decide +kernel
theorem d_Mo_move_115 : decode prog_11_method_9_code 115 = .ok (.getfield 23, 3) := by decide +kernel
theorem d_Mo_move_118 : decode prog_11_method_9_code 118 = .ok (.bipush 16, 2) := by decide +kernel
theorem d_Mo_move_120 : decode prog_11_method_9_code 120 = .ok (.iload_n 1, 1) := by decide +kernel
theorem d_Mo_move_121 : decode prog_11_method_9_code 121 = .ok (.imul, 1) := by decide +kernel
theorem d_Mo_move_122 : decode prog_11_method_9_code 122 = .ok (.iload_n 3, 1) := by decide +kernel
theorem d_Mo_move_123 : decode prog_11_method_9_code 123 = .ok (.iadd, 1) := by decide +kernel
theorem d_Mo_move_124 : decode prog_11_method_9_code 124 = .ok (.iaload, 1) := by decide +kernel
theorem d_Mo_move_125 : decode prog_11_method_9_code 125 = .ok (.iastore, 1) := by decide +kernel
theorem d_Mo_move_126 : decode prog_11_method_9_code 126 = .ok (.iinc 3 1, 3) := by decide +kernel
theorem d_Mo_move_129 : decode prog_11_method_9_code 129 = .ok (.goto (-31), 3) := by decide +kernel
theorem d_Mo_move_132 : decode prog_11_method_9_code 132 = .ok (.iconst 0, 1) := by decide +kernel
theorem d_Mo_move_133 : decode prog_11_method_9_code 133 = .ok (.istore_n 3, 1) := by decide +kernel
theorem d_Mo_move_134 : decode prog_11_method_9_code 134 = .ok (.iload_n 3, 1) := by decide +kernel
theorem d_Mo_move_135 : decode prog_11_method_9_code 135 = .ok (.bipush 8, 2) := by decide +kernel
theorem d_Mo_move_137 : decode prog_11_method_9_code 137 = .ok (.if_icmp .ge 53, 3) := by decide +kernel
theorem d_Mo_move_140 : decode prog_11_method_9_code 140 = .ok (.aload_n 0, 1) := by decide +kernel
theorem d_Mo_move_141 : decode prog_11_method_9_code 141 = .ok (.getfield 39, 3) := by decide +kernel
theorem d_Mo_move_144 : decode prog_11_method_9_code 144 = .ok (.bipush 8, 2) := by decide +kernel
theorem d_Mo_move_146 : decode prog_11_method_9_code 146 = .ok (.iload_n 2, 1) := by decide +kernel
theorem d_Mo_move_147 : decode prog_11_method_9_code 147 = .ok (.imul, 1) := by decide +kernel
theorem d_Mo_move_148 : decode prog_11_method_9_code 148 = .ok (.iload_n 3, 1) := by decide +kernel
theorem d_Mo_move_149 : decode prog_11_method_9_code 149 = .ok (.iadd, 1) := by decide +kernel
theorem d_Mo_move_150 : decode prog_11_method_9_code 150 = .ok (.aload_n 0, 1) := by decide +kernel
theorem d_Mo_move_151 : decode prog_11_method_9_code 151 = .ok (.getfield 39, 3) := by decide +kernel
theorem d_Mo_move_154 : decode prog_11_method_9_code 154 = .ok (.bipush 8, 2) := by decide +kernel
theorem d_Mo_move_156 : decode prog_11_method_9_code 156 = .ok (.iload_n 1, 1) := by decide +kernel
theorem d_Mo_move_157 : decode prog_11_method_9_code 157 = .ok (.imul, 1) := by decide +kernel
theorem d_Mo_move_158 : decode prog_11_method_9_code 158 = .ok (.iload_n 3, 1) := by decide +kernel
theorem d_Mo_move_159 : decode prog_11_method_9_code 159 = .ok (.iadd, 1) := by decide +kernel
theorem d_Mo_move_160 : decode prog_11_method_9_code 160 = .ok (.iaload, 1) := by decide +kernel
theorem d_Mo_move_161 : decode prog_11_method_9_code 161 = .ok (.iastore, 1) := by decide +kernel
theorem d_Mo_move_162 : decode prog_11_method_9_code 162 = .ok (.aload_n 0, 1) := by decide +kernel
theorem d_Mo_move_163 : decode prog_11_method_9_code 163 = .ok (.getfield 42, 3) := by decide +kernel
theorem d_Mo_move_166 : decode prog_11_method_9_code 166 = .ok (.bipush 8, 2) := by decide +kernel
theorem d_Mo_move_168 : decode prog_11_method_9_code 168 = .ok (.iload_n 2, 1) := by decide +kernel
theorem d_Mo_move_169 : decode prog_11_method_9_code 169 = .ok (.imul, 1) := by decide +kernel
theorem d_Mo_move_170 : decode prog_11_method_9_code 170 = .ok (.iload_n 3, 1) := by decide +kernel
theorem d_Mo_move_171 : decode prog_11_method_9_code 171 = .ok (.iadd, 1) := by decide +kernel
theorem d_Mo_move_172 : decode prog_11_method_9_code 172 = .ok (.aload_n 0, 1) := by decide +kernel
theorem d_Mo_move_173 : decode prog_11_method_9_code 173 = .ok (.getfield 42, 3) := by decide +kernel
theorem d_Mo_move_176 : decode prog_11_method_9_code 176 = .ok (.bipush 8, 2) := by decide +kernel
theorem d_Mo_move_178 : decode prog_11_method_9_code 178 = .ok (.iload_n 1, 1) := by decide +kernel
theorem d_Mo_move_179 : decode prog_11_method_9_code 179 = .ok (.imul, 1) := by decide +kernel
theorem d_Mo_move_180 : decode prog_11_method_9_code 180 = .ok (.iload_n 3, 1) := by decide +kernel
theorem d_Mo_move_181 : decode prog_11_method_9_code 181 = .ok (.iadd, 1) := by decide +kernel
theorem d_Mo_move_182 : decode prog_11_method_9_code 182 = .ok (.iaload, 1) := by decide +kernel
theorem d_Mo_move_183 : decode prog_11_method_9_code 183 = .ok (.iastore, 1) := by decide +kernel
theorem d_Mo_move_184 : decode prog_11_method_9_code 184 = .ok (.iinc 3 1, 3) := by decide +kernel
theorem d_Mo_move_187 : decode prog_11_method_9_code 187 = .ok (.goto (-53), 3) := by decide +kernel
theorem d_Mo_move_190 : decode prog_11_method_9_code 190 = .ok (.return_, 1) := by decide +kernel
theorem d_Mo_behind_0 : decode prog_11_method_10_code 0 = .ok (.iload_n 1, 1) := by decide +kernel
theorem d_Mo_behind_1 : decode prog_11_method_10_code 1 = .ok (.ifCond .ge 8, 3) := by decide +kernel
theorem d_Mo_behind_4 : decode prog_11_method_10_code 4 = .ok (.aload_n 0, 1) := by decide +kernel
theorem d_Mo_behind_5 : decode prog_11_method_10_code 5 = .ok (.getfield 86, 3) := by decide +kernel
theorem d_Mo_behind_8 : decode prog_11_method_10_code 8 = .ok (.ireturn, 1) := by decide +kernel
theorem d_Mo_behind_9 : decode prog_11_method_10_code 9 = .ok (.iload_n 1, 1) := by decide +kernel
theorem d_Mo_behind_10 : decode prog_11_method_10_code 10 = .ok (.iconst 1, 1) := by decide +kernel
theorem d_Mo_behind_11 : decode prog_11_method_10_code 11 = .ok (.iadd, 1) := by decide +kernel
theorem d_Mo_behind_12 : decode prog_11_method_10_code 12 = .ok (.istore_n 2, 1) := by decide +kernel
theorem d_Mo_behind_13 : decode prog_11_method_10_code 13 = .ok (.iload_n 2, 1) := by decide +kernel
theorem d_Mo_behind_14 : decode prog_11_method_10_code 14 = .ok (.aload_n 0, 1) := by decide +kernel
theorem d_Mo_behind_15 : decode prog_11_method_10_code 15 = .ok (.getfield 86, 3) := by decide +kernel
theorem d_Mo_behind_18 : decode prog_11_method_10_code 18 = .ok (.if_icmp .ge 18, 3) := by decide +kernel
theorem d_Mo_behind_21 : decode prog_11_method_10_code 21 = .ok (.aload_n 0, 1) := by decide +kernel
theorem d_Mo_behind_22 : decode prog_11_method_10_code 22 = .ok (.iload_n 2, 1) := by decide +kernel
theorem d_Mo_behind_23 : decode prog_11_method_10_code 23 = .ok (.iload_n 1, 1) := by decide +kernel
theorem d_Mo_behind_24 : decode prog_11_method_10_code 24 = .ok (.invokevirtual 93, 3) := by decide +kernel
theorem d_Mo_behind_27 : decode prog_11_method_10_code 27 = .ok (.ifCond .eq 9, 3) := by decide +kernel
theorem d_Mo_behind_30 : decode prog_11_method_10_code 30 = .ok (.iinc 2 1, 3) := by decide +kernel
theorem d_Mo_behind_33 : decode prog_11_method_10_code 33 = .ok (.goto (-20), 3) := by decide +kernel
theorem d_Mo_behind_36 : decode prog_11_method_10_code 36 = .ok (.iload_n 2, 1) := by decide +kernel
theorem d_Mo_behind_37 : decode prog_11_method_10_code 37 = .ok (.ireturn, 1) := by decide +kernel
theorem d_Mo_isIn_0 : decode prog_11_method_11_code 0 = .ok (.aload_n 0, 1) := by decide +kernel
theorem d_Mo_isIn_1 : decode prog_11_method_11_code 1 = .ok (.getfield 13, 3) := by decide +kernel
theorem d_Mo_isIn_4 : decode prog_11_method_11_code 4 = .ok (.iload_n 1, 1) := by decide +kernel
theorem d_Mo_isIn_5 : decode prog_11_method_11_code 5 = .ok (.iaload, 1) := by decide +kernel
theorem d_Mo_isIn_6 : decode prog_11_method_11_code 6 = .ok (.istore_n 3, 1) := by decide +kernel
theorem d_Mo_isIn_7 : decode prog_11_method_11_code 7 = .ok (.iload_n 3, 1) := by decide +kernel
theorem d_Mo_isIn_8 : decode prog_11_method_11_code 8 = .ok (.iload_n 2, 1) := by decide +kernel
theorem d_Mo_isIn_9 : decode prog_11_method_11_code 9 = .ok (.if_icmp .le 13, 3) := by decide +kernel
theorem d_Mo_isIn_12 : decode prog_11_method_11_code 12 = .ok (.aload_n 0, 1) := by decide +kernel
theorem d_Mo_isIn_13 : decode prog_11_method_11_code 13 = .ok (.getfield 13, 3) := by decide +kernel
theorem d_Mo_isIn_16 : decode prog_11_method_11_code 16 = .ok (.iload_n 3, 1) := by decide +kernel
theorem d_Mo_isIn_17 : decode prog_11_method_11_code 17 = .ok (.iaload, 1) := by decide +kernel
theorem d_Mo_isIn_18 : decode prog_11_method_11_code 18 = .ok (.istore_n 3, 1) := by decide +kernel
theorem d_Mo_isIn_19 : decode prog_11_method_11_code 19 = .ok (.goto (-12), 3) := by decide +kernel
theorem d_Mo_isIn_22 : decode prog_11_method_11_code 22 = .ok (.iload_n 3, 1) := by decide +kernel
theorem d_Mo_isIn_23 : decode prog_11_method_11_code 23 = .ok (.iload_n 2, 1) := by decide +kernel
theorem d_Mo_isIn_24 : decode prog_11_method_11_code 24 = .ok (.if_icmp .ne 7, 3) := by decide +kernel
theorem d_Mo_isIn_27 : decode prog_11_method_11_code 27 = .ok (.iconst 1, 1) := by decide +kernel
theorem d_Mo_isIn_28 : decode prog_11_method_11_code 28 = .ok (.goto 4, 3) := by decide +kernel
theorem d_Mo_isIn_31 : decode prog_11_method_11_code 31 = .ok (.iconst 0, 1) := by decide +kernel
theorem d_Mo_isIn_32 : decode prog_11_method_11_code 32 = .ok (.ireturn, 1) := by decide +kernel
theorem d_Mo_insert_0 : decode prog_11_method_12_code 0 = .ok (.aload_n 0, 1) := by decide +kernel
theorem d_Mo_insert_1 : decode prog_11_method_12_code 1 = .ok (.iload_n 1, 1) := by decide +kernel
theorem d_Mo_insert_2 : decode prog_11_method_12_code 2 = .ok (.invokevirtual 97, 3) := by decide +kernel
theorem d_Mo_insert_5 : decode prog_11_method_12_code 5 = .ok (.istore 5, 2) := by decide +kernel
theorem d_Mo_insert_7 : decode prog_11_method_12_code 7 = .ok (.aload_n 0, 1) := by decide +kernel
theorem d_Mo_insert_8 : decode prog_11_method_12_code 8 = .ok (.getfield 86, 3) := by decide +kernel
theorem d_Mo_insert_11 : decode prog_11_method_12_code 11 = .ok (.istore 6, 2) := by decide +kernel
theorem d_Mo_insert_13 : decode prog_11_method_12_code 13 = .ok (.iload 6, 2) := by decide +kernel
theorem d_Mo_insert_15 : decode prog_11_method_12_code 15 = .ok (.iload 5, 2) := by decide +kernel
theorem d_Mo_insert_17 : decode prog_11_method_12_code 17 = .ok (.if_icmp .le 57, 3) := by decide +kernel
theorem d_Mo_insert_20 : decode prog_11_method_12_code 20 = .ok (.aload_n 0, 1) := by decide +kernel
theorem d_Mo_insert_21 : decode prog_11_method_12_code 21 = .ok (.iload 6, 2) := by decide +kernel
theorem d_Mo_insert_23 : decode prog_11_method_12_code 23 = .ok (.iconst 1, 1) := by decide +kernel
theorem d_Mo_insert_24 : decode prog_11_method_12_code 24 = .ok (.isub, 1) := by decide +kernel
theorem d_Mo_insert_25 : decode prog_11_method_12_code 25 = .ok (.iload 6, 2) := by decide +kernel
theorem d_Mo_insert_27 : decode prog_11_method_12_code 27 = .ok (.invokevirtual 100, 3) := by decide +kernel
theorem d_Mo_insert_30 : decode prog_11_method_12_code 30 = .ok (.aload_n 0, 1) := by decide +kernel
theorem d_Mo_insert_31 : decode prog_11_method_12_code 31 = .ok (.getfield 13, 3) := by decide +kernel
theorem d_Mo_insert_34 : decode prog_11_method_12_code 34 = .ok (.iload 6, 2) := by decide +kernel
theorem d_Mo_insert_36 : decode prog_11_method_12_code 36 = .ok (.aload_n 0, 1) := by decide +kernel
theorem d_Mo_insert_37 : decode prog_11_method_12_code 37 = .ok (.getfield 13, 3) := by decide +kernel
theorem d_Mo_insert_40 : decode prog_11_method_12_code 40 = .ok (.iload 6, 2) := by decide +kernel
theorem d_Mo_insert_42 : decode prog_11_method_12_code 42 = .ok (.iaload, 1) := by decide +kernel
theorem d_Mo_insert_43 : decode prog_11_method_12_code 43 = .ok (.iload 5, 2) := by decide +kernel
theorem d_Mo_insert_45 : decode prog_11_method_12_code 45 = .ok (.if_icmp .lt 15, 3) := by decide +kernel
theorem d_Mo_insert_48 : decode prog_11_method_12_code 48 = .ok (.aload_n 0, 1) := by decide +kernel
theorem d_Mo_insert_49 : decode prog_11_method_12_code 49 = .ok (.getfield 13, 3) := by decide +kernel
theorem d_Mo_insert_52 : decode prog_11_method_12_code 52 = .ok (.iload 6, 2) := by decide +kernel
theorem d_Mo_insert_54 : decode prog_11_method_12_code 54 = .ok (.iaload, 1) := by decide +kernel
theorem d_Mo_insert_55 : decode prog_11_method_12_code 55 = .ok (.iconst 1, 1) := by decide +kernel
theorem d_Mo_insert_56 : decode prog_11_method_12_code 56 = .ok (.iadd, 1) := by decide +kernel
theorem d_Mo_insert_57 : decode prog_11_method_12_code 57 = .ok (.goto 10, 3) := by decide +kernel
theorem d_Mo_insert_60 : decode prog_11_method_12_code 60 = .ok (.aload_n 0, 1) := by decide +kernel
theorem d_Mo_insert_61 : decode prog_11_method_12_code 61 = .ok (.getfield 13, 3) := by decide +kernel
theorem d_Mo_insert_64 : decode prog_11_method_12_code 64 = .ok (.iload 6, 2) := by decide +kernel
theorem d_Mo_insert_66 : decode prog_11_method_12_code 66 = .ok (.iaload, 1) := by decide +kernel
theorem d_Mo_insert_67 : decode prog_11_method_12_code 67 = .ok (.iastore, 1) := by decide +kernel
theorem d_Mo_insert_68 : decode prog_11_method_12_code 68 = .ok (.iinc 6 (-1), 3) := by decide +kernel
theorem d_Mo_insert_71 : decode prog_11_method_12_code 71 = .ok (.goto (-58), 3) := by decide +kernel
theorem d_Mo_insert_74 : decode prog_11_method_12_code 74 = .ok (.aload_n 0, 1) := by decide +kernel
theorem d_Mo_insert_75 : decode prog_11_method_12_code 75 = .ok (.dup, 1) := by decide +kernel
theorem d_Mo_insert_76 : decode prog_11_method_12_code 76 = .ok (.getfield 86, 3) := by decide +kernel
theorem d_Mo_insert_79 : decode prog_11_method_12_code 79 = .ok (.iconst 1, 1) := by decide +kernel
theorem d_Mo_insert_80 : decode prog_11_method_12_code 80 = .ok (.iadd, 1) := by decide +kernel
theorem d_Mo_insert_81 : decode prog_11_method_12_code 81 = .ok (.putfield 86, 3) := by decide +kernel
theorem d_Mo_insert_84 : decode prog_11_method_12_code 84 = .ok (.aload_n 0, 1) := by decide +kernel
theorem d_Mo_insert_85 : decode prog_11_method_12_code 85 = .ok (.getfield 7, 3) := by decide +kernel
theorem d_Mo_insert_88 : decode prog_11_method_12_code 88 = .ok (.iload 5, 2) := by decide +kernel
theorem d_Mo_insert_90 : decode prog_11_method_12_code 90 = .ok (.iload_n 2, 1) := by decide +kernel
theorem d_Mo_insert_91 : decode prog_11_method_12_code 91 = .ok (.iastore, 1) := by decide +kernel
theorem d_Mo_insert_92 : decode prog_11_method_12_code 92 = .ok (.aload_n 0, 1) := by decide +kernel
theorem d_Mo_insert_93 : decode prog_11_method_12_code 93 = .ok (.getfield 13, 3) := by decide +kernel
theorem d_Mo_insert_96 : decode prog_11_method_12_code 96 = .ok (.iload 5, 2) := by decide +kernel
theorem d_Mo_insert_98 : decode prog_11_method_12_code 98 = .ok (.iload_n 1, 1) := by decide +kernel
theorem d_Mo_insert_99 : decode prog_11_method_12_code 99 = .ok (.iastore, 1) := by decide +kernel
theorem d_Mo_insert_100 : decode prog_11_method_12_code 100 = .ok (.aload_n 0, 1) := by decide +kernel
theorem d_Mo_insert_101 : decode prog_11_method_12_code 101 = .ok (.getfield 16, 3) := by decide +kernel
theorem d_Mo_insert_104 : decode prog_11_method_12_code 104 = .ok (.iload 5, 2) := by decide +kernel
theorem d_Mo_insert_106 : decode prog_11_method_12_code 106 = .ok (.lload_n 3, 1) := by decide +kernel
theorem d_Mo_insert_107 : decode prog_11_method_12_code 107 = .ok (.lastore, 1) := by decide +kernel
theorem d_Mo_insert_108 : decode prog_11_method_12_code 108 = .ok (.aload_n 0, 1) := by decide +kernel
theorem d_Mo_insert_109 : decode prog_11_method_12_code 109 = .ok (.getfield 20, 3) := by decide +kernel
theorem d_Mo_insert_112 : decode prog_11_method_12_code 112 = .ok (.iload 5, 2) := by decide +kernel
theorem d_Mo_insert_114 : decode prog_11_method_12_code 114 = .ok (.iconst 0, 1) := by decide +kernel
theorem d_Mo_insert_115 : decode prog_11_method_12_code 115 = .ok (.iastore, 1) := by decide +kernel
theorem d_Mo_insert_116 : decode prog_11_method_12_code 116 = .ok (.iload 5, 2) := by decide +kernel
theorem d_Mo_insert_118 : decode prog_11_method_12_code 118 = .ok (.ireturn, 1) := by decide +kernel
theorem d_Mo_remove_0 : decode prog_11_method_13_code 0 = .ok (.aload_n 0, 1) := by decide +kernel
theorem d_Mo_remove_1 : decode prog_11_method_13_code 1 = .ok (.iload_n 1, 1) := by decide +kernel
theorem d_Mo_remove_2 : decode prog_11_method_13_code 2 = .ok (.invokevirtual 97, 3) := by decide +kernel
theorem d_Mo_remove_5 : decode prog_11_method_13_code 5 = .ok (.iload_n 1, 1) := by decide +kernel
theorem d_Mo_remove_6 : decode prog_11_method_13_code 6 = .ok (.isub, 1) := by decide +kernel
theorem d_Mo_remove_7 : decode prog_11_method_13_code 7 = .ok (.istore_n 2, 1) := by decide +kernel
theorem d_Mo_remove_8 : decode prog_11_method_13_code 8 = .ok (.iload_n 1, 1) := by decide +kernel
theorem d_Mo_remove_9 : decode prog_11_method_13_code 9 = .ok (.istore_n 3, 1) := by decide +kernel
theorem d_Mo_remove_10 : decode prog_11_method_13_code 10 = .ok (.iload_n 3, 1) := by decide +kernel
theorem d_Mo_remove_11 : decode prog_11_method_13_code 11 = .ok (.iload_n 2, 1) := by decide +kernel
theorem d_Mo_remove_12 : decode prog_11_method_13_code 12 = .ok (.iadd, 1) := by decide +kernel
theorem d_Mo_remove_13 : decode prog_11_method_13_code 13 = .ok (.aload_n 0, 1) := by decide +kernel
theorem d_Mo_remove_14 : decode prog_11_method_13_code 14 = .ok (.getfield 86, 3) := by decide +kernel
theorem d_Mo_remove_17 : decode prog_11_method_13_code 17 = .ok (.if_icmp .ge 50, 3) := by decide +kernel
theorem d_Mo_remove_20 : decode prog_11_method_13_code 20 = .ok (.aload_n 0, 1) := by decide +kernel
theorem d_Mo_remove_21 : decode prog_11_method_13_code 21 = .ok (.iload_n 3, 1) := by decide +kernel
theorem d_Mo_remove_22 : decode prog_11_method_13_code 22 = .ok (.iload_n 2, 1) := by decide +kernel
theorem d_Mo_remove_23 : decode prog_11_method_13_code 23 = .ok (.iadd, 1) := by decide +kernel
theorem d_Mo_remove_24 : decode prog_11_method_13_code 24 = .ok (.iload_n 3, 1) := by decide +kernel
theorem d_Mo_remove_25 : decode prog_11_method_13_code 25 = .ok (.invokevirtual 100, 3) := by decide +kernel
theorem d_Mo_remove_28 : decode prog_11_method_13_code 28 = .ok (.aload_n 0, 1) := by decide +kernel
theorem d_Mo_remove_29 : decode prog_11_method_13_code 29 = .ok (.getfield 13, 3) := by decide +kernel
theorem d_Mo_remove_32 : decode prog_11_method_13_code 32 = .ok (.iload_n 3, 1) := by decide +kernel
theorem d_Mo_remove_33 : decode prog_11_method_13_code 33 = .ok (.aload_n 0, 1) := by decide +kernel
theorem d_Mo_remove_34 : decode prog_11_method_13_code 34 = .ok (.getfield 13, 3) := by decide +kernel
theorem d_Mo_remove_37 : decode prog_11_method_13_code 37 = .ok (.iload_n 3, 1) := by decide +kernel
theorem d_Mo_remove_38 : decode prog_11_method_13_code 38 = .ok (.iaload, 1) := by decide +kernel
theorem d_Mo_remove_39 : decode prog_11_method_13_code 39 = .ok (.iload_n 1, 1) := by decide +kernel
theorem d_Mo_remove_40 : decode prog_11_method_13_code 40 = .ok (.if_icmp .le 14, 3) := by decide +kernel
theorem d_Mo_remove_43 : decode prog_11_method_13_code 43 = .ok (.aload_n 0, 1) := by decide +kernel
theorem d_Mo_remove_44 : decode prog_11_method_13_code 44 = .ok (.getfield 13, 3) := by decide +kernel
theorem d_Mo_remove_47 : decode prog_11_method_13_code 47 = .ok (.iload_n 3, 1) := by decide +kernel
theorem d_Mo_remove_48 : decode prog_11_method_13_code 48 = .ok (.iaload, 1) := by decide +kernel
theorem d_Mo_remove_49 : decode prog_11_method_13_code 49 = .ok (.iload_n 2, 1) := by decide +kernel
theorem d_Mo_remove_50 : decode prog_11_method_13_code 50 = .ok (.isub, 1) := by decide +kernel
theorem d_Mo_remove_51 : decode prog_11_method_13_code 51 = .ok (.goto 9, 3) := by decide +kernel
theorem d_Mo_remove_54 : decode prog_11_method_13_code 54 = .ok (.aload_n 0, 1) := by decide +kernel
theorem d_Mo_remove_55 : decode prog_11_method_13_code 55 = .ok (.getfield 13, 3) := by decide +kernel
theorem d_Mo_remove_58 : decode prog_11_method_13_code 58 = .ok (.iload_n 3, 1) := by decide +kernel
theorem d_Mo_remove_59 : decode prog_11_method_13_code 59 = .ok (.iaload, 1) := by decide +kernel
theorem d_Mo_remove_60 : decode prog_11_method_13_code 60 = .ok (.iastore, 1) := by decide +kernel
theorem d_Mo_remove_61 : decode prog_11_method_13_code 61 = .ok (.iinc 3 1, 3) := by decide +kernel
theorem d_Mo_remove_64 : decode prog_11_method_13_code 64 = .ok (.goto (-54), 3) := by decide +kernel
theorem d_Mo_remove_67 : decode prog_11_method_13_code 67 = .ok (.aload_n 0, 1) := by decide +kernel
theorem d_Mo_remove_68 : decode prog_11_method_13_code 68 = .ok (.aload_n 0, 1) := by decide +kernel
theorem d_Mo_remove_69 : decode prog_11_method_13_code 69 = .ok (.getfield 86, 3) := by decide +kernel
theorem d_Mo_remove_72 : decode prog_11_method_13_code 72 = .ok (.iload_n 2, 1) := by decide +kernel
theorem d_Mo_remove_73 : decode prog_11_method_13_code 73 = .ok (.isub, 1) := by decide +kernel
theorem d_Mo_remove_74 : decode prog_11_method_13_code 74 = .ok (.putfield 86, 3) := by decide +kernel
theorem d_Mo_remove_77 : decode prog_11_method_13_code 77 = .ok (.return_, 1) := by decide +kernel
theorem d_Mo_clear_0 : decode prog_11_method_14_code 0 = .ok (.aload_n 0, 1) := by decide +kernel
theorem d_Mo_clear_1 : decode prog_11_method_14_code 1 = .ok (.iconst 0, 1) := by decide +kernel
theorem d_Mo_clear_2 : decode prog_11_method_14_code 2 = .ok (.putfield 86, 3) := by decide +kernel
theorem d_Mo_clear_5 : decode prog_11_method_14_code 5 = .ok (.aload_n 0, 1) := by decide +kernel
theorem d_Mo_clear_6 : decode prog_11_method_14_code 6 = .ok (.iconst 0, 1) := by decide +kernel
theorem d_Mo_clear_7 : decode prog_11_method_14_code 7 = .ok (.putfield 104, 3) := by decide +kernel
theorem d_Mo_clear_10 : decode prog_11_method_14_code 10 = .ok (.return_, 1) := by decide +kernel
theorem d_Mo_feed_0 : decode prog_11_method_15_code 0 = .ok (.iload_n 3, 1) := by decide +kernel
theorem d_Mo_feed_1 : decode prog_11_method_15_code 1 = .ok (.iconst 1, 1) := by decide +kernel
theorem d_Mo_feed_2 : decode prog_11_method_15_code 2 = .ok (.if_icmp .lt 9, 3) := by decide +kernel
theorem d_Mo_feed_5 : decode prog_11_method_15_code 5 = .ok (.iload_n 3, 1) := by decide +kernel
theorem d_Mo_feed_6 : decode prog_11_method_15_code 6 = .ok (.bipush 8, 2) := by decide +kernel
theorem d_Mo_feed_8 : decode prog_11_method_15_code 8 = .ok (.if_icmp .le 5, 3) := by decide +kernel
theorem d_Mo_feed_11 : decode prog_11_method_15_code 11 = .ok (.iconst (-1), 1) := by decide +kernel
theorem d_Mo_feed_12 : decode prog_11_method_15_code 12 = .ok (.ireturn, 1) := by decide +kernel
theorem d_Mo_feed_13 : decode prog_11_method_15_code 13 = .ok (.aload_n 0, 1) := by decide +kernel
theorem d_Mo_feed_14 : decode prog_11_method_15_code 14 = .ok (.getfield 107, 3) := by decide +kernel
theorem d_Mo_feed_17 : decode prog_11_method_15_code 17 = .ok (.iload_n 3, 1) := by decide +kernel
theorem d_Mo_feed_18 : decode prog_11_method_15_code 18 = .ok (.iadd, 1) := by decide +kernel
theorem d_Mo_feed_19 : decode prog_11_method_15_code 19 = .ok (.sipush 640, 3) := by decide +kernel
theorem d_Mo_feed_22 : decode prog_11_method_15_code 22 = .ok (.if_icmp .le 6, 3) := by decide +kernel
theorem d_Mo_feed_25 : decode prog_11_method_15_code 25 = .ok (.bipush (-8), 2) := by decide +kernel
theorem d_Mo_feed_27 : decode prog_11_method_15_code 27 = .ok (.ireturn, 1) := by decide +kernel
theorem d_Mo_feed_28 : decode prog_11_method_15_code 28 = .ok (.iload_n 3, 1) := by decide +kernel
theorem d_Mo_feed_29 : decode prog_11_method_15_code 29 = .ok (.iconst 1, 1) := by decide +kernel
theorem d_Mo_feed_30 : decode prog_11_method_15_code 30 = .ok (.isub, 1) := by decide +kernel
theorem d_Mo_feed_31 : decode prog_11_method_15_code 31 = .ok (.istore 4, 2) := by decide +kernel
theorem d_Mo_feed_33 : decode prog_11_method_15_code 33 = .ok (.iload 4, 2) := by decide +kernel
theorem d_Mo_feed_35 : decode prog_11_method_15_code 35 = .ok (.ifCond .lt 40, 3) := by decide +kernel
theorem d_Mo_feed_38 : decode prog_11_method_15_code 38 = .ok (.aload_n 0, 1) := by decide +kernel
theorem d_Mo_feed_39 : decode prog_11_method_15_code 39 = .ok (.getfield 54, 3) := by decide +kernel
theorem d_Mo_feed_42 : decode prog_11_method_15_code 42 = .ok (.aload_n 0, 1) := by decide +kernel
theorem d_Mo_feed_43 : decode prog_11_method_15_code 43 = .ok (.getfield 107, 3) := by decide +kernel
theorem d_Mo_feed_46 : decode prog_11_method_15_code 46 = .ok (.lload_n 1, 1) := by decide +kernel
theorem d_Mo_feed_47 : decode prog_11_method_15_code 47 = .ok (.bipush 8, 2) := by decide +kernel
theorem d_Mo_feed_49 : decode prog_11_method_15_code 49 = .ok (.iload 4, 2) := by decide +kernel
theorem d_Mo_feed_51 : decode prog_11_method_15_code 51 = .ok (.imul, 1) := by decide +kernel
theorem d_Mo_feed_52 : decode prog_11_method_15_code 52 = .ok (.lshr, 1) := by decide +kernel
theorem d_Mo_feed_53 : decode prog_11_method_15_code 53 = .ok (.ldc2_w 110, 3) := by decide +kernel
theorem d_Mo_feed_56 : decode prog_11_method_15_code 56 = .ok (.land, 1) := by decide +kernel
theorem d_Mo_feed_57 : decode prog_11_method_15_code 57 = .ok (.l2i, 1) := by decide +kernel
theorem d_Mo_feed_58 : decode prog_11_method_15_code 58 = .ok (.iastore, 1) := by decide +kernel
theorem d_Mo_feed_59 : decode prog_11_method_15_code 59 = .ok (.aload_n 0, 1) := by decide +kernel
theorem d_Mo_feed_60 : decode prog_11_method_15_code 60 = .ok (.dup, 1) := by decide +kernel
theorem d_Mo_feed_61 : decode prog_11_method_15_code 61 = .ok (.getfield 107, 3) := by decide +kernel
theorem d_Mo_feed_64 : decode prog_11_method_15_code 64 = .ok (.iconst 1, 1) := by decide +kernel
theorem d_Mo_feed_65 : decode prog_11_method_15_code 65 = .ok (.iadd, 1) := by decide +kernel
theorem d_Mo_feed_66 : decode prog_11_method_15_code 66 = .ok (.putfield 107, 3) := by decide +kernel
theorem d_Mo_feed_69 : decode prog_11_method_15_code 69 = .ok (.iinc 4 (-1), 3) := by decide +kernel
theorem d_Mo_feed_72 : decode prog_11_method_15_code 72 = .ok (.goto (-39), 3) := by decide +kernel
theorem d_Mo_feed_75 : decode prog_11_method_15_code 75 = .ok (.aload_n 0, 1) := by decide +kernel
theorem d_Mo_feed_76 : decode prog_11_method_15_code 76 = .ok (.getfield 107, 3) := by decide +kernel
theorem d_Mo_feed_79 : decode prog_11_method_15_code 79 = .ok (.ireturn, 1) := by decide +kernel
theorem d_Mo_take_0 : decode prog_11_method_16_code 0 = .ok (.aload_n 0, 1) := by decide +kernel
theorem d_Mo_take_1 : decode prog_11_method_16_code 1 = .ok (.iload_n 1, 1) := by decide +kernel
theorem d_Mo_take_2 : decode prog_11_method_16_code 2 = .ok (.ifCond .eq 10, 3) := by decide +kernel
theorem d_Mo_take_5 : decode prog_11_method_16_code 5 = .ok (.aload_n 0, 1) := by decide +kernel

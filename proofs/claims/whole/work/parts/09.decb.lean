theorem d_El_init_8 : decode prog_2_method_1_code 8 = .ok (.putfield 15, 3) := by decide +kernel
theorem d_El_init_11 : decode prog_2_method_1_code 11 = .ok (.aload_n 0, 1) := by decide +kernel
theorem d_El_init_12 : decode prog_2_method_1_code 12 = .ok (.bipush 16, 2) := by decide +kernel
theorem d_El_init_14 : decode prog_2_method_1_code 14 = .ok (.newarray .int, 2) := by decide +kernel
theorem d_El_init_16 : decode prog_2_method_1_code 16 = .ok (.putfield 20, 3) := by decide +kernel
theorem d_El_init_19 : decode prog_2_method_1_code 19 = .ok (.return_, 1) := by decide +kernel
theorem d_El_begin_0 : decode prog_2_method_2_code 0 = .ok (.aload_n 0, 1) := by decide +kernel
theorem d_El_begin_1 : decode prog_2_method_2_code 1 = .ok (.aload_n 1, 1) := by decide +kernel
theorem d_El_begin_2 : decode prog_2_method_2_code 2 = .ok (.putfield 15, 3) := by decide +kernel
theorem d_El_begin_5 : decode prog_2_method_2_code 5 = .ok (.aload_n 0, 1) := by decide +kernel
theorem d_El_begin_6 : decode prog_2_method_2_code 6 = .ok (.iload_n 2, 1) := by decide +kernel
theorem d_El_begin_7 : decode prog_2_method_2_code 7 = .ok (.putfield 24, 3) := by decide +kernel
theorem d_El_begin_10 : decode prog_2_method_2_code 10 = .ok (.aload_n 0, 1) := by decide +kernel
theorem d_El_begin_11 : decode prog_2_method_2_code 11 = .ok (.aload_n 3, 1) := by decide +kernel
theorem d_El_begin_12 : decode prog_2_method_2_code 12 = .ok (.putfield 28, 3) := by decide +kernel
theorem d_El_begin_15 : decode prog_2_method_2_code 15 = .ok (.aload_n 0, 1) := by decide +kernel
theorem d_El_begin_16 : decode prog_2_method_2_code 16 = .ok (.aload_n 3, 1) := by decide +kernel
theorem d_El_begin_17 : decode prog_2_method_2_code 17 = .ok (.ifnonnull 7, 3) := by decide +kernel
theorem d_El_begin_20 : decode prog_2_method_2_code 20 = .ok (.iconst 0, 1) := by decide +kernel
theorem d_El_begin_21 : decode prog_2_method_2_code 21 = .ok (.goto 9, 3) := by decide +kernel
theorem d_El_begin_24 : decode prog_2_method_2_code 24 = .ok (.aload_n 3, 1) := by decide +kernel
theorem d_El_begin_25 : decode prog_2_method_2_code 25 = .ok (.getfield 32, 3) := by decide +kernel
theorem d_El_begin_28 : decode prog_2_method_2_code 28 = .ok (.iconst 1, 1) := by decide +kernel
theorem d_El_begin_29 : decode prog_2_method_2_code 29 = .ok (.iadd, 1) := by decide +kernel
theorem d_El_begin_30 : decode prog_2_method_2_code 30 = .ok (.putfield 32, 3) := by decide +kernel
theorem d_El_begin_33 : decode prog_2_method_2_code 33 = .ok (.aload_n 0, 1) := by decide +kernel
theorem d_El_begin_34 : decode prog_2_method_2_code 34 = .ok (.lconst 0, 1) := by decide +kernel
theorem d_El_begin_35 : decode prog_2_method_2_code 35 = .ok (.putfield 35, 3) := by decide +kernel
theorem d_El_begin_38 : decode prog_2_method_2_code 38 = .ok (.aload_n 0, 1) := by decide +kernel
theorem d_El_begin_39 : decode prog_2_method_2_code 39 = .ok (.iconst 0, 1) := by decide +kernel
theorem d_El_begin_40 : decode prog_2_method_2_code 40 = .ok (.putfield 39, 3) := by decide +kernel
theorem d_El_begin_43 : decode prog_2_method_2_code 43 = .ok (.aload_n 0, 1) := by decide +kernel
theorem d_El_begin_44 : decode prog_2_method_2_code 44 = .ok (.iconst 0, 1) := by decide +kernel
theorem d_El_begin_45 : decode prog_2_method_2_code 45 = .ok (.putfield 42, 3) := by decide +kernel
theorem d_El_begin_48 : decode prog_2_method_2_code 48 = .ok (.return_, 1) := by decide +kernel
theorem d_El_setDetails_0 : decode prog_2_method_3_code 0 = .ok (.aload_n 0, 1) := by decide +kernel
theorem d_El_setDetails_1 : decode prog_2_method_3_code 1 = .ok (.iload_n 1, 1) := by decide +kernel
theorem d_El_setDetails_2 : decode prog_2_method_3_code 2 = .ok (.putfield 45, 3) := by decide +kernel
theorem d_El_setDetails_5 : decode prog_2_method_3_code 5 = .ok (.aload_n 0, 1) := by decide +kernel
theorem d_El_setDetails_6 : decode prog_2_method_3_code 6 = .ok (.iload_n 2, 1) := by decide +kernel
theorem d_El_setDetails_7 : decode prog_2_method_3_code 7 = .ok (.putfield 48, 3) := by decide +kernel
theorem d_El_setDetails_10 : decode prog_2_method_3_code 10 = .ok (.aload_n 0, 1) := by decide +kernel
theorem d_El_setDetails_11 : decode prog_2_method_3_code 11 = .ok (.iload_n 3, 1) := by decide +kernel
theorem d_El_setDetails_12 : decode prog_2_method_3_code 12 = .ok (.putfield 51, 3) := by decide +kernel
theorem d_El_setDetails_15 : decode prog_2_method_3_code 15 = .ok (.aload_n 0, 1) := by decide +kernel
theorem d_El_setDetails_16 : decode prog_2_method_3_code 16 = .ok (.iload 4, 2) := by decide +kernel
theorem d_El_setDetails_18 : decode prog_2_method_3_code 18 = .ok (.putfield 55, 3) := by decide +kernel
theorem d_El_setDetails_21 : decode prog_2_method_3_code 21 = .ok (.return_, 1) := by decide +kernel
theorem d_El_addPart_0 : decode prog_2_method_4_code 0 = .ok (.aload_n 0, 1) := by decide +kernel
theorem d_El_addPart_1 : decode prog_2_method_4_code 1 = .ok (.getfield 35, 3) := by decide +kernel
theorem d_El_addPart_4 : decode prog_2_method_4_code 4 = .ok (.lconst 0, 1) := by decide +kernel
theorem d_El_addPart_5 : decode prog_2_method_4_code 5 = .ok (.lcmp, 1) := by decide +kernel
theorem d_El_addPart_6 : decode prog_2_method_4_code 6 = .ok (.ifCond .lt 17, 3) := by decide +kernel
theorem d_El_addPart_9 : decode prog_2_method_4_code 9 = .ok (.aload_n 0, 1) := by decide +kernel
theorem d_El_addPart_10 : decode prog_2_method_4_code 10 = .ok (.getfield 35, 3) := by decide +kernel
theorem d_El_addPart_13 : decode prog_2_method_4_code 13 = .ok (.aload_n 0, 1) := by decide +kernel
theorem d_El_addPart_14 : decode prog_2_method_4_code 14 = .ok (.getfield 20, 3) := by decide +kernel
theorem d_El_addPart_17 : decode prog_2_method_4_code 17 = .ok (.arraylength, 1) := by decide +kernel
theorem d_El_addPart_18 : decode prog_2_method_4_code 18 = .ok (.i2l, 1) := by decide +kernel
theorem d_El_addPart_19 : decode prog_2_method_4_code 19 = .ok (.lcmp, 1) := by decide +kernel
theorem d_El_addPart_20 : decode prog_2_method_4_code 20 = .ok (.ifCond .lt 5, 3) := by decide +kernel
theorem d_El_addPart_23 : decode prog_2_method_4_code 23 = .ok (.iconst 0, 1) := by decide +kernel
theorem d_El_addPart_24 : decode prog_2_method_4_code 24 = .ok (.ireturn, 1) := by decide +kernel
theorem d_El_addPart_25 : decode prog_2_method_4_code 25 = .ok (.aload_n 0, 1) := by decide +kernel
theorem d_El_addPart_26 : decode prog_2_method_4_code 26 = .ok (.getfield 20, 3) := by decide +kernel
theorem d_El_addPart_29 : decode prog_2_method_4_code 29 = .ok (.aload_n 0, 1) := by decide +kernel
theorem d_El_addPart_30 : decode prog_2_method_4_code 30 = .ok (.getfield 35, 3) := by decide +kernel
theorem d_El_addPart_33 : decode prog_2_method_4_code 33 = .ok (.l2i, 1) := by decide +kernel
theorem d_El_addPart_34 : decode prog_2_method_4_code 34 = .ok (.iload_n 1, 1) := by decide +kernel
theorem d_El_addPart_35 : decode prog_2_method_4_code 35 = .ok (.iastore, 1) := by decide +kernel
theorem d_El_addPart_36 : decode prog_2_method_4_code 36 = .ok (.aload_n 0, 1) := by decide +kernel
theorem d_El_addPart_37 : decode prog_2_method_4_code 37 = .ok (.dup, 1) := by decide +kernel
theorem d_El_addPart_38 : decode prog_2_method_4_code 38 = .ok (.getfield 35, 3) := by decide +kernel
theorem d_El_addPart_41 : decode prog_2_method_4_code 41 = .ok (.lconst 1, 1) := by decide +kernel
theorem d_El_addPart_42 : decode prog_2_method_4_code 42 = .ok (.ladd, 1) := by decide +kernel
theorem d_El_addPart_43 : decode prog_2_method_4_code 43 = .ok (.putfield 35, 3) := by decide +kernel
theorem d_El_addPart_46 : decode prog_2_method_4_code 46 = .ok (.iconst 1, 1) := by decide +kernel
theorem d_El_addPart_47 : decode prog_2_method_4_code 47 = .ok (.ireturn, 1) := by decide +kernel
theorem d_El_partAt_0 : decode prog_2_method_5_code 0 = .ok (.iload_n 1, 1) := by decide +kernel
theorem d_El_partAt_1 : decode prog_2_method_5_code 1 = .ok (.ifCond .lt 31, 3) := by decide +kernel
theorem d_El_partAt_4 : decode prog_2_method_5_code 4 = .ok (.iload_n 1, 1) := by decide +kernel
theorem d_El_partAt_5 : decode prog_2_method_5_code 5 = .ok (.i2l, 1) := by decide +kernel
theorem d_El_partAt_6 : decode prog_2_method_5_code 6 = .ok (.aload_n 0, 1) := by decide +kernel
theorem d_El_partAt_7 : decode prog_2_method_5_code 7 = .ok (.getfield 35, 3) := by decide +kernel
theorem d_El_partAt_10 : decode prog_2_method_5_code 10 = .ok (.lcmp, 1) := by decide +kernel
theorem d_El_partAt_11 : decode prog_2_method_5_code 11 = .ok (.ifCond .ge 21, 3) := by decide +kernel
theorem d_El_partAt_14 : decode prog_2_method_5_code 14 = .ok (.iload_n 1, 1) := by decide +kernel
theorem d_El_partAt_15 : decode prog_2_method_5_code 15 = .ok (.aload_n 0, 1) := by decide +kernel
theorem d_El_partAt_16 : decode prog_2_method_5_code 16 = .ok (.getfield 20, 3) := by decide +kernel
theorem d_El_partAt_19 : decode prog_2_method_5_code 19 = .ok (.arraylength, 1) := by decide +kernel
theorem d_El_partAt_20 : decode prog_2_method_5_code 20 = .ok (.if_icmp .ge 12, 3) := by decide +kernel
theorem d_El_partAt_23 : decode prog_2_method_5_code 23 = .ok (.aload_n 0, 1) := by decide +kernel
theorem d_El_partAt_24 : decode prog_2_method_5_code 24 = .ok (.getfield 20, 3) := by decide +kernel
theorem d_El_partAt_27 : decode prog_2_method_5_code 27 = .ok (.iload_n 1, 1) := by decide +kernel
theorem d_El_partAt_28 : decode prog_2_method_5_code 28 = .ok (.iaload, 1) := by decide +kernel
theorem d_El_partAt_29 : decode prog_2_method_5_code 29 = .ok (.goto 4, 3) := by decide +kernel
theorem d_El_partAt_32 : decode prog_2_method_5_code 32 = .ok (.iconst (-1), 1) := by decide +kernel
theorem d_El_partAt_33 : decode prog_2_method_5_code 33 = .ok (.ireturn, 1) := by decide +kernel
theorem d_Tr_init_0 : decode prog_8_method_1_code 0 = .ok (.aload_n 0, 1) := by decide +kernel
theorem d_Tr_init_1 : decode prog_8_method_1_code 1 = .ok (.invokespecial 3, 3) := by decide +kernel
theorem d_Tr_init_4 : decode prog_8_method_1_code 4 = .ok (.aload_n 0, 1) := by decide +kernel
theorem d_Tr_init_5 : decode prog_8_method_1_code 5 = .ok (.bipush 60, 2) := by decide +kernel
theorem d_Tr_init_7 : decode prog_8_method_1_code 7 = .ok (.anewarray 9, 3) := by decide +kernel
theorem d_Tr_init_10 : decode prog_8_method_1_code 10 = .ok (.putfield 11, 3) := by decide +kernel
theorem d_Tr_init_13 : decode prog_8_method_1_code 13 = .ok (.aload_n 0, 1) := by decide +kernel
theorem d_Tr_init_14 : decode prog_8_method_1_code 14 = .ok (.bipush 60, 2) := by decide +kernel
theorem d_Tr_init_16 : decode prog_8_method_1_code 16 = .ok (.anewarray 9, 3) := by decide +kernel
theorem d_Tr_init_19 : decode prog_8_method_1_code 19 = .ok (.putfield 17, 3) := by decide +kernel
theorem d_Tr_init_22 : decode prog_8_method_1_code 22 = .ok (.aload_n 0, 1) := by decide +kernel
theorem d_Tr_init_23 : decode prog_8_method_1_code 23 = .ok (.sipush 1200, 3) := by decide +kernel
theorem d_Tr_init_26 : decode prog_8_method_1_code 26 = .ok (.newarray .int, 2) := by decide +kernel
theorem d_Tr_init_28 : decode prog_8_method_1_code 28 = .ok (.putfield 20, 3) := by decide +kernel
theorem d_Tr_init_31 : decode prog_8_method_1_code 31 = .ok (.return_, 1) := by decide +kernel
theorem d_Tr_empty_0 : decode prog_8_method_2_code 0 = .ok (.aload_n 0, 1) := by decide +kernel
theorem d_Tr_empty_1 : decode prog_8_method_2_code 1 = .ok (.iconst 0, 1) := by decide +kernel
theorem d_Tr_empty_2 : decode prog_8_method_2_code 2 = .ok (.putfield 24, 3) := by decide +kernel
theorem d_Tr_empty_5 : decode prog_8_method_2_code 5 = .ok (.aload_n 0, 1) := by decide +kernel
theorem d_Tr_empty_6 : decode prog_8_method_2_code 6 = .ok (.iconst 0, 1) := by decide +kernel
theorem d_Tr_empty_7 : decode prog_8_method_2_code 7 = .ok (.putfield 28, 3) := by decide +kernel
theorem d_Tr_empty_10 : decode prog_8_method_2_code 10 = .ok (.return_, 1) := by decide +kernel
theorem d_Tr_at_0 : decode prog_8_method_3_code 0 = .ok (.iload_n 1, 1) := by decide +kernel
theorem d_Tr_at_1 : decode prog_8_method_3_code 1 = .ok (.ifCond .lt 20, 3) := by decide +kernel
theorem d_Tr_at_4 : decode prog_8_method_3_code 4 = .ok (.iload_n 1, 1) := by decide +kernel
theorem d_Tr_at_5 : decode prog_8_method_3_code 5 = .ok (.aload_n 0, 1) := by decide +kernel
theorem d_Tr_at_6 : decode prog_8_method_3_code 6 = .ok (.getfield 24, 3) := by decide +kernel
theorem d_Tr_at_9 : decode prog_8_method_3_code 9 = .ok (.if_icmp .ge 12, 3) := by decide +kernel
theorem d_Tr_at_12 : decode prog_8_method_3_code 12 = .ok (.aload_n 0, 1) := by decide +kernel
theorem d_Tr_at_13 : decode prog_8_method_3_code 13 = .ok (.getfield 11, 3) := by decide +kernel
theorem d_Tr_at_16 : decode prog_8_method_3_code 16 = .ok (.iload_n 1, 1) := by decide +kernel
theorem d_Tr_at_17 : decode prog_8_method_3_code 17 = .ok (.aaload, 1) := by decide +kernel
theorem d_Tr_at_18 : decode prog_8_method_3_code 18 = .ok (.goto 4, 3) := by decide +kernel
theorem d_Tr_at_21 : decode prog_8_method_3_code 21 = .ok (.aconst_null, 1) := by decide +kernel
theorem d_Tr_at_22 : decode prog_8_method_3_code 22 = .ok (.areturn, 1) := by decide +kernel
theorem d_Tr_endOf_0 : decode prog_8_method_4_code 0 = .ok (.aload_n 1, 1) := by decide +kernel
theorem d_Tr_endOf_1 : decode prog_8_method_4_code 1 = .ok (.getfield 31, 3) := by decide +kernel
theorem d_Tr_endOf_4 : decode prog_8_method_4_code 4 = .ok (.iconst 1, 1) := by decide +kernel
theorem d_Tr_endOf_5 : decode prog_8_method_4_code 5 = .ok (.iadd, 1) := by decide +kernel
theorem d_Tr_endOf_6 : decode prog_8_method_4_code 6 = .ok (.istore_n 2, 1) := by decide +kernel
theorem d_Tr_endOf_7 : decode prog_8_method_4_code 7 = .ok (.iload_n 2, 1) := by decide +kernel
theorem d_Tr_endOf_8 : decode prog_8_method_4_code 8 = .ok (.aload_n 0, 1) := by decide +kernel
theorem d_Tr_endOf_9 : decode prog_8_method_4_code 9 = .ok (.getfield 24, 3) := by decide +kernel
theorem d_Tr_endOf_12 : decode prog_8_method_4_code 12 = .ok (.if_icmp .ge 25, 3) := by decide +kernel
theorem d_Tr_endOf_15 : decode prog_8_method_4_code 15 = .ok (.aload_n 0, 1) := by decide +kernel
theorem d_Tr_endOf_16 : decode prog_8_method_4_code 16 = .ok (.getfield 11, 3) := by decide +kernel
theorem d_Tr_endOf_19 : decode prog_8_method_4_code 19 = .ok (.iload_n 2, 1) := by decide +kernel
theorem d_Tr_endOf_20 : decode prog_8_method_4_code 20 = .ok (.aaload, 1) := by decide +kernel
theorem d_Tr_endOf_21 : decode prog_8_method_4_code 21 = .ok (.getfield 34, 3) := by decide +kernel
theorem d_Tr_endOf_24 : decode prog_8_method_4_code 24 = .ok (.aload_n 1, 1) := by decide +kernel
theorem d_Tr_endOf_25 : decode prog_8_method_4_code 25 = .ok (.getfield 34, 3) := by decide +kernel
theorem d_Tr_endOf_28 : decode prog_8_method_4_code 28 = .ok (.if_icmp .le 9, 3) := by decide +kernel
theorem d_Tr_endOf_31 : decode prog_8_method_4_code 31 = .ok (.iinc 2 1, 3) := by decide +kernel
theorem d_Tr_endOf_34 : decode prog_8_method_4_code 34 = .ok (.goto (-27), 3) := by decide +kernel
theorem d_Tr_endOf_37 : decode prog_8_method_4_code 37 = .ok (.iload_n 2, 1) := by decide +kernel
theorem d_Tr_endOf_38 : decode prog_8_method_4_code 38 = .ok (.ireturn, 1) := by decide +kernel
theorem d_Tr_childrenOf_0 : decode prog_8_method_5_code 0 = .ok (.iconst 0, 1) := by decide +kernel
theorem d_Tr_childrenOf_1 : decode prog_8_method_5_code 1 = .ok (.istore_n 2, 1) := by decide +kernel
theorem d_Tr_childrenOf_2 : decode prog_8_method_5_code 2 = .ok (.aload_n 0, 1) := by decide +kernel
theorem d_Tr_childrenOf_3 : decode prog_8_method_5_code 3 = .ok (.aload_n 1, 1) := by decide +kernel
theorem d_Tr_childrenOf_4 : decode prog_8_method_5_code 4 = .ok (.invokevirtual 37, 3) := by decide +kernel
theorem d_Tr_childrenOf_7 : decode prog_8_method_5_code 7 = .ok (.istore_n 3, 1) := by decide +kernel
theorem d_Tr_childrenOf_8 : decode prog_8_method_5_code 8 = .ok (.aload_n 1, 1) := by decide +kernel
theorem d_Tr_childrenOf_9 : decode prog_8_method_5_code 9 = .ok (.getfield 31, 3) := by decide +kernel
theorem d_Tr_childrenOf_12 : decode prog_8_method_5_code 12 = .ok (.iconst 1, 1) := by decide +kernel
theorem d_Tr_childrenOf_13 : decode prog_8_method_5_code 13 = .ok (.iadd, 1) := by decide +kernel
theorem d_Tr_childrenOf_14 : decode prog_8_method_5_code 14 = .ok (.istore 4, 2) := by decide +kernel
theorem d_Tr_childrenOf_16 : decode prog_8_method_5_code 16 = .ok (.iload 4, 2) := by decide +kernel
theorem d_Tr_childrenOf_18 : decode prog_8_method_5_code 18 = .ok (.iload_n 3, 1) := by decide +kernel
theorem d_Tr_childrenOf_19 : decode prog_8_method_5_code 19 = .ok (.if_icmp .ge 26, 3) := by decide +kernel
theorem d_Tr_childrenOf_22 : decode prog_8_method_5_code 22 = .ok (.aload_n 0, 1) := by decide +kernel
theorem d_Tr_childrenOf_23 : decode prog_8_method_5_code 23 = .ok (.getfield 11, 3) := by decide +kernel
theorem d_Tr_childrenOf_26 : decode prog_8_method_5_code 26 = .ok (.iload 4, 2) := by decide +kernel
theorem d_Tr_childrenOf_28 : decode prog_8_method_5_code 28 = .ok (.aaload, 1) := by decide +kernel
theorem d_Tr_childrenOf_29 : decode prog_8_method_5_code 29 = .ok (.getfield 41, 3) := by decide +kernel
theorem d_Tr_childrenOf_32 : decode prog_8_method_5_code 32 = .ok (.aload_n 1, 1) := by decide +kernel
theorem d_Tr_childrenOf_33 : decode prog_8_method_5_code 33 = .ok (.if_acmp .ne 6, 3) := by decide +kernel
theorem d_Tr_childrenOf_36 : decode prog_8_method_5_code 36 = .ok (.iinc 2 1, 3) := by decide +kernel
theorem d_Tr_childrenOf_39 : decode prog_8_method_5_code 39 = .ok (.iinc 4 1, 3) := by decide +kernel
theorem d_Tr_childrenOf_42 : decode prog_8_method_5_code 42 = .ok (.goto (-26), 3) := by decide +kernel
theorem d_Tr_childrenOf_45 : decode prog_8_method_5_code 45 = .ok (.iload_n 2, 1) := by decide +kernel
theorem d_Tr_childrenOf_46 : decode prog_8_method_5_code 46 = .ok (.ireturn, 1) := by decide +kernel
theorem d_Tr_childOf_0 : decode prog_8_method_6_code 0 = .ok (.iconst 0, 1) := by decide +kernel
theorem d_Tr_childOf_1 : decode prog_8_method_6_code 1 = .ok (.istore_n 3, 1) := by decide +kernel
theorem d_Tr_childOf_2 : decode prog_8_method_6_code 2 = .ok (.aload_n 0, 1) := by decide +kernel
theorem d_Tr_childOf_3 : decode prog_8_method_6_code 3 = .ok (.aload_n 1, 1) := by decide +kernel
theorem d_Tr_childOf_4 : decode prog_8_method_6_code 4 = .ok (.invokevirtual 37, 3) := by decide +kernel
theorem d_Tr_childOf_7 : decode prog_8_method_6_code 7 = .ok (.istore 4, 2) := by decide +kernel
theorem d_Tr_childOf_9 : decode prog_8_method_6_code 9 = .ok (.aload_n 1, 1) := by decide +kernel
theorem d_Tr_childOf_10 : decode prog_8_method_6_code 10 = .ok (.getfield 31, 3) := by decide +kernel
theorem d_Tr_childOf_13 : decode prog_8_method_6_code 13 = .ok (.iconst 1, 1) := by decide +kernel
theorem d_Tr_childOf_14 : decode prog_8_method_6_code 14 = .ok (.iadd, 1) := by decide +kernel
theorem d_Tr_childOf_15 : decode prog_8_method_6_code 15 = .ok (.istore 5, 2) := by decide +kernel
theorem d_Tr_childOf_17 : decode prog_8_method_6_code 17 = .ok (.iload 5, 2) := by decide +kernel
theorem d_Tr_childOf_19 : decode prog_8_method_6_code 19 = .ok (.iload 4, 2) := by decide +kernel
theorem d_Tr_childOf_21 : decode prog_8_method_6_code 21 = .ok (.if_icmp .ge 34, 3) := by decide +kernel
theorem d_Tr_childOf_24 : decode prog_8_method_6_code 24 = .ok (.aload_n 0, 1) := by decide +kernel
theorem d_Tr_childOf_25 : decode prog_8_method_6_code 25 = .ok (.getfield 11, 3) := by decide +kernel
theorem d_Tr_childOf_28 : decode prog_8_method_6_code 28 = .ok (.iload 5, 2) := by decide +kernel
theorem d_Tr_childOf_30 : decode prog_8_method_6_code 30 = .ok (.aaload, 1) := by decide +kernel
theorem d_Tr_childOf_31 : decode prog_8_method_6_code 31 = .ok (.getfield 41, 3) := by decide +kernel
theorem d_Tr_childOf_34 : decode prog_8_method_6_code 34 = .ok (.aload_n 1, 1) := by decide +kernel
theorem d_Tr_childOf_35 : decode prog_8_method_6_code 35 = .ok (.if_acmp .ne 14, 3) := by decide +kernel
theorem d_Tr_childOf_38 : decode prog_8_method_6_code 38 = .ok (.iload_n 3, 1) := by decide +kernel
theorem d_Tr_childOf_39 : decode prog_8_method_6_code 39 = .ok (.iload_n 2, 1) := by decide +kernel
theorem d_Tr_childOf_40 : decode prog_8_method_6_code 40 = .ok (.if_icmp .ne 6, 3) := by decide +kernel
theorem d_Tr_childOf_43 : decode prog_8_method_6_code 43 = .ok (.iload 5, 2) := by decide +kernel
theorem d_Tr_childOf_45 : decode prog_8_method_6_code 45 = .ok (.ireturn, 1) := by decide +kernel
theorem d_Tr_childOf_46 : decode prog_8_method_6_code 46 = .ok (.iinc 3 1, 3) := by decide +kernel
theorem d_Tr_childOf_49 : decode prog_8_method_6_code 49 = .ok (.iinc 5 1, 3) := by decide +kernel
theorem d_Tr_childOf_52 : decode prog_8_method_6_code 52 = .ok (.goto (-35), 3) := by decide +kernel
theorem d_Tr_childOf_55 : decode prog_8_method_6_code 55 = .ok (.iconst (-1), 1) := by decide +kernel
theorem d_Tr_childOf_56 : decode prog_8_method_6_code 56 = .ok (.ireturn, 1) := by decide +kernel
theorem d_Tr_mayStand_0 : decode prog_8_method_7_code 0 = .ok (.aload_n 2, 1) := by decide +kernel
theorem d_Tr_mayStand_1 : decode prog_8_method_7_code 1 = .ok (.ifnonnull 9, 3) := by decide +kernel
theorem d_Tr_mayStand_4 : decode prog_8_method_7_code 4 = .ok (.aload_n 1, 1) := by decide +kernel
theorem d_Tr_mayStand_5 : decode prog_8_method_7_code 5 = .ok (.iconst 1, 1) := by decide +kernel
theorem d_Tr_mayStand_6 : decode prog_8_method_7_code 6 = .ok (.invokevirtual 45, 3) := by decide +kernel
theorem d_Tr_mayStand_9 : decode prog_8_method_7_code 9 = .ok (.ireturn, 1) := by decide +kernel
theorem d_Tr_mayStand_10 : decode prog_8_method_7_code 10 = .ok (.aload_n 1, 1) := by decide +kernel
theorem d_Tr_mayStand_11 : decode prog_8_method_7_code 11 = .ok (.getstatic 51, 3) := by decide +kernel
theorem d_Tr_mayStand_14 : decode prog_8_method_7_code 14 = .ok (.if_acmp .ne 21, 3) := by decide +kernel
theorem d_Tr_mayStand_17 : decode prog_8_method_7_code 17 = .ok (.aload_n 0, 1) := by decide +kernel
theorem d_Tr_mayStand_18 : decode prog_8_method_7_code 18 = .ok (.aload_n 2, 1) := by decide +kernel
theorem d_Tr_mayStand_19 : decode prog_8_method_7_code 19 = .ok (.invokevirtual 37, 3) := by decide +kernel
theorem d_Tr_mayStand_22 : decode prog_8_method_7_code 22 = .ok (.aload_n 2, 1) := by decide +kernel
theorem d_Tr_mayStand_23 : decode prog_8_method_7_code 23 = .ok (.getfield 31, 3) := by decide +kernel
theorem d_Tr_mayStand_26 : decode prog_8_method_7_code 26 = .ok (.iconst 1, 1) := by decide +kernel
theorem d_Tr_mayStand_27 : decode prog_8_method_7_code 27 = .ok (.iadd, 1) := by decide +kernel
theorem d_Tr_mayStand_28 : decode prog_8_method_7_code 28 = .ok (.if_icmp .le 7, 3) := by decide +kernel
theorem d_Tr_mayStand_31 : decode prog_8_method_7_code 31 = .ok (.iconst 1, 1) := by decide +kernel
theorem d_Tr_mayStand_32 : decode prog_8_method_7_code 32 = .ok (.goto 4, 3) := by decide +kernel
theorem d_Tr_mayStand_35 : decode prog_8_method_7_code 35 = .ok (.iconst 0, 1) := by decide +kernel
theorem d_Tr_mayStand_36 : decode prog_8_method_7_code 36 = .ok (.istore_n 3, 1) := by decide +kernel
theorem d_Tr_mayStand_37 : decode prog_8_method_7_code 37 = .ok (.aload_n 1, 1) := by decide +kernel
theorem d_Tr_mayStand_38 : decode prog_8_method_7_code 38 = .ok (.aload_n 2, 1) := by decide +kernel
theorem d_Tr_mayStand_39 : decode prog_8_method_7_code 39 = .ok (.getfield 55, 3) := by decide +kernel
theorem d_Tr_mayStand_42 : decode prog_8_method_7_code 42 = .ok (.getfield 58, 3) := by decide +kernel
theorem d_Tr_mayStand_45 : decode prog_8_method_7_code 45 = .ok (.invokevirtual 45, 3) := by decide +kernel
theorem d_Tr_mayStand_48 : decode prog_8_method_7_code 48 = .ok (.ifCond .eq 11, 3) := by decide +kernel
theorem d_Tr_mayStand_51 : decode prog_8_method_7_code 51 = .ok (.iload_n 3, 1) := by decide +kernel
theorem d_Tr_mayStand_52 : decode prog_8_method_7_code 52 = .ok (.ifCond .ne 7, 3) := by decide +kernel
theorem d_Tr_mayStand_55 : decode prog_8_method_7_code 55 = .ok (.iconst 1, 1) := by decide +kernel
theorem d_Tr_mayStand_56 : decode prog_8_method_7_code 56 = .ok (.goto 4, 3) := by decide +kernel
theorem d_Tr_mayStand_59 : decode prog_8_method_7_code 59 = .ok (.iconst 0, 1) := by decide +kernel
theorem d_Tr_mayStand_60 : decode prog_8_method_7_code 60 = .ok (.ireturn, 1) := by decide +kernel
theorem d_Tr_add_0 : decode prog_8_method_8_code 0 = .ok (.aload_n 0, 1) := by decide +kernel
theorem d_Tr_add_1 : decode prog_8_method_8_code 1 = .ok (.getfield 24, 3) := by decide +kernel
theorem d_Tr_add_4 : decode prog_8_method_8_code 4 = .ok (.aload_n 0, 1) := by decide +kernel
theorem d_Tr_add_5 : decode prog_8_method_8_code 5 = .ok (.getfield 11, 3) := by decide +kernel
theorem d_Tr_add_8 : decode prog_8_method_8_code 8 = .ok (.arraylength, 1) := by decide +kernel
theorem d_Tr_add_9 : decode prog_8_method_8_code 9 = .ok (.if_icmp .lt 5, 3) := by decide +kernel
theorem d_Tr_add_12 : decode prog_8_method_8_code 12 = .ok (.aconst_null, 1) := by decide +kernel
theorem d_Tr_add_13 : decode prog_8_method_8_code 13 = .ok (.areturn, 1) := by decide +kernel
theorem d_Tr_add_14 : decode prog_8_method_8_code 14 = .ok (.aload_n 0, 1) := by decide +kernel
theorem d_Tr_add_15 : decode prog_8_method_8_code 15 = .ok (.getfield 11, 3) := by decide +kernel
theorem d_Tr_add_18 : decode prog_8_method_8_code 18 = .ok (.aload_n 0, 1) := by decide +kernel
theorem d_Tr_add_19 : decode prog_8_method_8_code 19 = .ok (.getfield 24, 3) := by decide +kernel
theorem d_Tr_add_22 : decode prog_8_method_8_code 22 = .ok (.aaload, 1) := by decide +kernel
theorem d_Tr_add_23 : decode prog_8_method_8_code 23 = .ok (.ifnonnull 13, 3) := by decide +kernel
theorem d_Tr_add_26 : decode prog_8_method_8_code 26 = .ok (.new 9, 3) := by decide +kernel
theorem d_Tr_add_29 : decode prog_8_method_8_code 29 = .ok (.dup, 1) := by decide +kernel
theorem d_Tr_add_30 : decode prog_8_method_8_code 30 = .ok (.invokespecial 61, 3) := by decide +kernel
theorem d_Tr_add_33 : decode prog_8_method_8_code 33 = .ok (.goto 12, 3) := by decide +kernel
theorem d_Tr_add_36 : decode prog_8_method_8_code 36 = .ok (.aload_n 0, 1) := by decide +kernel
theorem d_Tr_add_37 : decode prog_8_method_8_code 37 = .ok (.getfield 11, 3) := by decide +kernel
theorem d_Tr_add_40 : decode prog_8_method_8_code 40 = .ok (.aload_n 0, 1) := by decide +kernel
theorem d_Tr_add_41 : decode prog_8_method_8_code 41 = .ok (.getfield 24, 3) := by decide +kernel
theorem d_Tr_add_44 : decode prog_8_method_8_code 44 = .ok (.aaload, 1) := by decide +kernel
theorem d_Tr_add_45 : decode prog_8_method_8_code 45 = .ok (.astore 4, 2) := by decide +kernel
theorem d_Tr_add_47 : decode prog_8_method_8_code 47 = .ok (.aload_n 1, 1) := by decide +kernel
theorem d_Tr_add_48 : decode prog_8_method_8_code 48 = .ok (.ifnonnull 10, 3) := by decide +kernel
theorem d_Tr_add_51 : decode prog_8_method_8_code 51 = .ok (.aload_n 0, 1) := by decide +kernel
theorem d_Tr_add_52 : decode prog_8_method_8_code 52 = .ok (.getfield 24, 3) := by decide +kernel
theorem d_Tr_add_55 : decode prog_8_method_8_code 55 = .ok (.goto 8, 3) := by decide +kernel
theorem d_Tr_add_58 : decode prog_8_method_8_code 58 = .ok (.aload_n 0, 1) := by decide +kernel
theorem d_Tr_add_59 : decode prog_8_method_8_code 59 = .ok (.aload_n 1, 1) := by decide +kernel
theorem d_Tr_add_60 : decode prog_8_method_8_code 60 = .ok (.invokevirtual 37, 3) := by decide +kernel
theorem d_Tr_add_63 : decode prog_8_method_8_code 63 = .ok (.istore 5, 2) := by decide +kernel
theorem d_Tr_add_65 : decode prog_8_method_8_code 65 = .ok (.aload_n 0, 1) := by decide +kernel
theorem d_Tr_add_66 : decode prog_8_method_8_code 66 = .ok (.getfield 24, 3) := by decide +kernel
theorem d_Tr_add_69 : decode prog_8_method_8_code 69 = .ok (.istore 6, 2) := by decide +kernel
theorem d_Tr_add_71 : decode prog_8_method_8_code 71 = .ok (.iload 6, 2) := by decide +kernel
theorem d_Tr_add_73 : decode prog_8_method_8_code 73 = .ok (.iload 5, 2) := by decide +kernel
theorem d_Tr_add_75 : decode prog_8_method_8_code 75 = .ok (.if_icmp .le 24, 3) := by decide +kernel
theorem d_Tr_add_78 : decode prog_8_method_8_code 78 = .ok (.aload_n 0, 1) := by decide +kernel
theorem d_Tr_add_79 : decode prog_8_method_8_code 79 = .ok (.iload 6, 2) := by decide +kernel
theorem d_Tr_add_81 : decode prog_8_method_8_code 81 = .ok (.aload_n 0, 1) := by decide +kernel
theorem d_Tr_add_82 : decode prog_8_method_8_code 82 = .ok (.getfield 11, 3) := by decide +kernel
theorem d_Tr_add_85 : decode prog_8_method_8_code 85 = .ok (.iload 6, 2) := by decide +kernel
theorem d_Tr_add_87 : decode prog_8_method_8_code 87 = .ok (.iconst 1, 1) := by decide +kernel
theorem d_Tr_add_88 : decode prog_8_method_8_code 88 = .ok (.isub, 1) := by decide +kernel
theorem d_Tr_add_89 : decode prog_8_method_8_code 89 = .ok (.aaload, 1) := by decide +kernel
theorem d_Tr_add_90 : decode prog_8_method_8_code 90 = .ok (.invokevirtual 62, 3) := by decide +kernel
theorem d_Tr_add_93 : decode prog_8_method_8_code 93 = .ok (.iinc 6 (-1), 3) := by decide +kernel
theorem d_Tr_add_96 : decode prog_8_method_8_code 96 = .ok (.goto (-25), 3) := by decide +kernel
theorem d_Tr_add_99 : decode prog_8_method_8_code 99 = .ok (.aload_n 0, 1) := by decide +kernel
theorem d_Tr_add_100 : decode prog_8_method_8_code 100 = .ok (.iload 5, 2) := by decide +kernel
theorem d_Tr_add_102 : decode prog_8_method_8_code 102 = .ok (.aload 4, 2) := by decide +kernel
theorem d_Tr_add_104 : decode prog_8_method_8_code 104 = .ok (.invokevirtual 62, 3) := by decide +kernel
theorem d_Tr_add_107 : decode prog_8_method_8_code 107 = .ok (.aload_n 0, 1) := by decide +kernel
theorem d_Tr_add_108 : decode prog_8_method_8_code 108 = .ok (.dup, 1) := by decide +kernel
theorem d_Tr_add_109 : decode prog_8_method_8_code 109 = .ok (.getfield 24, 3) := by decide +kernel
theorem d_Tr_add_112 : decode prog_8_method_8_code 112 = .ok (.iconst 1, 1) := by decide +kernel
theorem d_Tr_add_113 : decode prog_8_method_8_code 113 = .ok (.iadd, 1) := by decide +kernel
theorem d_Tr_add_114 : decode prog_8_method_8_code 114 = .ok (.putfield 24, 3) := by decide +kernel
theorem d_Tr_add_117 : decode prog_8_method_8_code 117 = .ok (.aload 4, 2) := by decide +kernel
theorem d_Tr_add_119 : decode prog_8_method_8_code 119 = .ok (.aload_n 2, 1) := by decide +kernel
theorem d_Tr_add_120 : decode prog_8_method_8_code 120 = .ok (.iload_n 3, 1) := by decide +kernel
theorem d_Tr_add_121 : decode prog_8_method_8_code 121 = .ok (.aload_n 1, 1) := by decide +kernel
theorem d_Tr_add_122 : decode prog_8_method_8_code 122 = .ok (.invokevirtual 66, 3) := by decide +kernel
theorem d_Tr_add_125 : decode prog_8_method_8_code 125 = .ok (.aload 4, 2) := by decide +kernel
theorem d_Tr_add_127 : decode prog_8_method_8_code 127 = .ok (.areturn, 1) := by decide +kernel
theorem d_Tr_putInLine_0 : decode prog_8_method_9_code 0 = .ok (.aload_n 0, 1) := by decide +kernel
theorem d_Tr_putInLine_1 : decode prog_8_method_9_code 1 = .ok (.getfield 11, 3) := by decide +kernel
theorem d_Tr_putInLine_4 : decode prog_8_method_9_code 4 = .ok (.iload_n 1, 1) := by decide +kernel
theorem d_Tr_putInLine_5 : decode prog_8_method_9_code 5 = .ok (.aload_n 2, 1) := by decide +kernel
theorem d_Tr_putInLine_6 : decode prog_8_method_9_code 6 = .ok (.aastore, 1) := by decide +kernel
theorem d_Tr_putInLine_7 : decode prog_8_method_9_code 7 = .ok (.aload_n 2, 1) := by decide +kernel
theorem d_Tr_putInLine_8 : decode prog_8_method_9_code 8 = .ok (.iload_n 1, 1) := by decide +kernel
theorem d_Tr_putInLine_9 : decode prog_8_method_9_code 9 = .ok (.putfield 31, 3) := by decide +kernel
theorem d_Tr_putInLine_12 : decode prog_8_method_9_code 12 = .ok (.return_, 1) := by decide +kernel
theorem d_Tr_weigh_0 : decode prog_8_method_10_code 0 = .ok (.iconst 0, 1) := by decide +kernel
theorem d_Tr_weigh_1 : decode prog_8_method_10_code 1 = .ok (.istore_n 3, 1) := by decide +kernel
theorem d_Tr_weigh_2 : decode prog_8_method_10_code 2 = .ok (.iconst 0, 1) := by decide +kernel
theorem d_Tr_weigh_3 : decode prog_8_method_10_code 3 = .ok (.istore 4, 2) := by decide +kernel
theorem d_Tr_weigh_5 : decode prog_8_method_10_code 5 = .ok (.aload_n 0, 1) := by decide +kernel
theorem d_Tr_weigh_6 : decode prog_8_method_10_code 6 = .ok (.aload_n 1, 1) := by decide +kernel
theorem d_Tr_weigh_7 : decode prog_8_method_10_code 7 = .ok (.invokevirtual 37, 3) := by decide +kernel
theorem d_Tr_weigh_10 : decode prog_8_method_10_code 10 = .ok (.istore 5, 2) := by decide +kernel
theorem d_Tr_weigh_12 : decode prog_8_method_10_code 12 = .ok (.aload_n 1, 1) := by decide +kernel
theorem d_Tr_weigh_13 : decode prog_8_method_10_code 13 = .ok (.getfield 31, 3) := by decide +kernel
theorem d_Tr_weigh_16 : decode prog_8_method_10_code 16 = .ok (.iconst 1, 1) := by decide +kernel
theorem d_Tr_weigh_17 : decode prog_8_method_10_code 17 = .ok (.iadd, 1) := by decide +kernel
theorem d_Tr_weigh_18 : decode prog_8_method_10_code 18 = .ok (.istore 6, 2) := by decide +kernel
theorem d_Tr_weigh_20 : decode prog_8_method_10_code 20 = .ok (.iload 6, 2) := by decide +kernel
theorem d_Tr_weigh_22 : decode prog_8_method_10_code 22 = .ok (.iload 5, 2) := by decide +kernel
theorem d_Tr_weigh_24 : decode prog_8_method_10_code 24 = .ok (.if_icmp .ge 52, 3) := by decide +kernel
theorem d_Tr_weigh_27 : decode prog_8_method_10_code 27 = .ok (.aload_n 0, 1) := by decide +kernel
theorem d_Tr_weigh_28 : decode prog_8_method_10_code 28 = .ok (.getfield 11, 3) := by decide +kernel
theorem d_Tr_weigh_31 : decode prog_8_method_10_code 31 = .ok (.iload 6, 2) := by decide +kernel
theorem d_Tr_weigh_33 : decode prog_8_method_10_code 33 = .ok (.aaload, 1) := by decide +kernel
theorem d_Tr_weigh_34 : decode prog_8_method_10_code 34 = .ok (.getfield 41, 3) := by decide +kernel
theorem d_Tr_weigh_37 : decode prog_8_method_10_code 37 = .ok (.aload_n 1, 1) := by decide +kernel
theorem d_Tr_weigh_38 : decode prog_8_method_10_code 38 = .ok (.if_acmp .ne 24, 3) := by decide +kernel
theorem d_Tr_weigh_41 : decode prog_8_method_10_code 41 = .ok (.aload_n 0, 1) := by decide +kernel
theorem d_Tr_weigh_42 : decode prog_8_method_10_code 42 = .ok (.getfield 11, 3) := by decide +kernel
theorem d_Tr_weigh_45 : decode prog_8_method_10_code 45 = .ok (.iload 6, 2) := by decide +kernel
theorem d_Tr_weigh_47 : decode prog_8_method_10_code 47 = .ok (.aaload, 1) := by decide +kernel
theorem d_Tr_weigh_48 : decode prog_8_method_10_code 48 = .ok (.getfield 55, 3) := by decide +kernel
theorem d_Tr_weigh_51 : decode prog_8_method_10_code 51 = .ok (.aload_n 2, 1) := by decide +kernel
theorem d_Tr_weigh_52 : decode prog_8_method_10_code 52 = .ok (.if_acmp .ne 7, 3) := by decide +kernel
theorem d_Tr_weigh_55 : decode prog_8_method_10_code 55 = .ok (.iconst 1, 1) := by decide +kernel
theorem d_Tr_weigh_56 : decode prog_8_method_10_code 56 = .ok (.goto 4, 3) := by decide +kernel
theorem d_Tr_weigh_59 : decode prog_8_method_10_code 59 = .ok (.iconst 0, 1) := by decide +kernel
theorem d_Tr_weigh_60 : decode prog_8_method_10_code 60 = .ok (.istore 4, 2) := by decide +kernel
theorem d_Tr_weigh_62 : decode prog_8_method_10_code 62 = .ok (.iload 4, 2) := by decide +kernel
theorem d_Tr_weigh_64 : decode prog_8_method_10_code 64 = .ok (.ifCond .eq 6, 3) := by decide +kernel
theorem d_Tr_weigh_67 : decode prog_8_method_10_code 67 = .ok (.iinc 3 1, 3) := by decide +kernel
theorem d_Tr_weigh_70 : decode prog_8_method_10_code 70 = .ok (.iinc 6 1, 3) := by decide +kernel
theorem d_Tr_weigh_73 : decode prog_8_method_10_code 73 = .ok (.goto (-53), 3) := by decide +kernel
theorem d_Tr_weigh_76 : decode prog_8_method_10_code 76 = .ok (.iload_n 3, 1) := by decide +kernel
theorem d_Tr_weigh_77 : decode prog_8_method_10_code 77 = .ok (.ireturn, 1) := by decide +kernel
theorem d_Tr_takeOut_0 : decode prog_8_method_11_code 0 = .ok (.iconst 0, 1) := by decide +kernel
theorem d_Tr_takeOut_1 : decode prog_8_method_11_code 1 = .ok (.istore_n 3, 1) := by decide +kernel
theorem d_Tr_takeOut_2 : decode prog_8_method_11_code 2 = .ok (.aload_n 1, 1) := by decide +kernel
theorem d_Tr_takeOut_3 : decode prog_8_method_11_code 3 = .ok (.getfield 31, 3) := by decide +kernel
theorem d_Tr_takeOut_6 : decode prog_8_method_11_code 6 = .ok (.iconst 1, 1) := by decide +kernel
theorem d_Tr_takeOut_7 : decode prog_8_method_11_code 7 = .ok (.iadd, 1) := by decide +kernel
theorem d_Tr_takeOut_8 : decode prog_8_method_11_code 8 = .ok (.istore 4, 2) := by decide +kernel
theorem d_Tr_takeOut_10 : decode prog_8_method_11_code 10 = .ok (.iconst 0, 1) := by decide +kernel
theorem d_Tr_takeOut_11 : decode prog_8_method_11_code 11 = .ok (.istore 5, 2) := by decide +kernel
theorem d_Tr_takeOut_13 : decode prog_8_method_11_code 13 = .ok (.aload_n 0, 1) := by decide +kernel
theorem d_Tr_takeOut_14 : decode prog_8_method_11_code 14 = .ok (.aload_n 1, 1) := by decide +kernel
theorem d_Tr_takeOut_15 : decode prog_8_method_11_code 15 = .ok (.invokevirtual 37, 3) := by decide +kernel
theorem d_Tr_takeOut_18 : decode prog_8_method_11_code 18 = .ok (.istore 6, 2) := by decide +kernel
theorem d_Tr_takeOut_20 : decode prog_8_method_11_code 20 = .ok (.iload 4, 2) := by decide +kernel
theorem d_Tr_takeOut_22 : decode prog_8_method_11_code 22 = .ok (.istore 7, 2) := by decide +kernel
theorem d_Tr_takeOut_24 : decode prog_8_method_11_code 24 = .ok (.iload 7, 2) := by decide +kernel
theorem d_Tr_takeOut_26 : decode prog_8_method_11_code 26 = .ok (.aload_n 0, 1) := by decide +kernel
theorem d_Tr_takeOut_27 : decode prog_8_method_11_code 27 = .ok (.getfield 24, 3) := by decide +kernel
theorem d_Tr_takeOut_30 : decode prog_8_method_11_code 30 = .ok (.if_icmp .ge 86, 3) := by decide +kernel
theorem d_Tr_takeOut_33 : decode prog_8_method_11_code 33 = .ok (.aload_n 0, 1) := by decide +kernel
theorem d_Tr_takeOut_34 : decode prog_8_method_11_code 34 = .ok (.getfield 11, 3) := by decide +kernel
theorem d_Tr_takeOut_37 : decode prog_8_method_11_code 37 = .ok (.iload 7, 2) := by decide +kernel
theorem d_Tr_takeOut_39 : decode prog_8_method_11_code 39 = .ok (.aaload, 1) := by decide +kernel
theorem d_Tr_takeOut_40 : decode prog_8_method_11_code 40 = .ok (.astore 8, 2) := by decide +kernel
theorem d_Tr_takeOut_42 : decode prog_8_method_11_code 42 = .ok (.iload 7, 2) := by decide +kernel
theorem d_Tr_takeOut_44 : decode prog_8_method_11_code 44 = .ok (.iload 6, 2) := by decide +kernel
theorem d_Tr_takeOut_46 : decode prog_8_method_11_code 46 = .ok (.if_icmp .lt 9, 3) := by decide +kernel
theorem d_Tr_takeOut_49 : decode prog_8_method_11_code 49 = .ok (.iconst 0, 1) := by decide +kernel
theorem d_Tr_takeOut_50 : decode prog_8_method_11_code 50 = .ok (.istore 5, 2) := by decide +kernel
theorem d_Tr_takeOut_52 : decode prog_8_method_11_code 52 = .ok (.goto 28, 3) := by decide +kernel
theorem d_Tr_takeOut_55 : decode prog_8_method_11_code 55 = .ok (.aload 8, 2) := by decide +kernel
theorem d_Tr_takeOut_57 : decode prog_8_method_11_code 57 = .ok (.getfield 41, 3) := by decide +kernel
theorem d_Tr_takeOut_60 : decode prog_8_method_11_code 60 = .ok (.aload_n 1, 1) := by decide +kernel
theorem d_Tr_takeOut_61 : decode prog_8_method_11_code 61 = .ok (.if_acmp .ne 19, 3) := by decide +kernel
theorem d_Tr_takeOut_64 : decode prog_8_method_11_code 64 = .ok (.aload 8, 2) := by decide +kernel
theorem d_Tr_takeOut_66 : decode prog_8_method_11_code 66 = .ok (.getfield 55, 3) := by decide +kernel
theorem d_Tr_takeOut_69 : decode prog_8_method_11_code 69 = .ok (.aload_n 2, 1) := by decide +kernel
theorem d_Tr_takeOut_70 : decode prog_8_method_11_code 70 = .ok (.if_acmp .ne 7, 3) := by decide +kernel
theorem d_Tr_takeOut_73 : decode prog_8_method_11_code 73 = .ok (.iconst 1, 1) := by decide +kernel
theorem d_Tr_takeOut_74 : decode prog_8_method_11_code 74 = .ok (.goto 4, 3) := by decide +kernel
theorem d_Tr_takeOut_77 : decode prog_8_method_11_code 77 = .ok (.iconst 0, 1) := by decide +kernel
theorem d_Tr_takeOut_78 : decode prog_8_method_11_code 78 = .ok (.istore 5, 2) := by decide +kernel
theorem d_Tr_takeOut_80 : decode prog_8_method_11_code 80 = .ok (.iload 5, 2) := by decide +kernel
theorem d_Tr_takeOut_82 : decode prog_8_method_11_code 82 = .ok (.ifCond .eq 17, 3) := by decide +kernel
theorem d_Tr_takeOut_85 : decode prog_8_method_11_code 85 = .ok (.aload_n 0, 1) := by decide +kernel
theorem d_Tr_takeOut_86 : decode prog_8_method_11_code 86 = .ok (.getfield 17, 3) := by decide +kernel
theorem d_Tr_takeOut_89 : decode prog_8_method_11_code 89 = .ok (.iload_n 3, 1) := by decide +kernel
theorem d_Tr_takeOut_90 : decode prog_8_method_11_code 90 = .ok (.aload 8, 2) := by decide +kernel
theorem d_Tr_takeOut_92 : decode prog_8_method_11_code 92 = .ok (.aastore, 1) := by decide +kernel
theorem d_Tr_takeOut_93 : decode prog_8_method_11_code 93 = .ok (.iinc 3 1, 3) := by decide +kernel
theorem d_Tr_takeOut_96 : decode prog_8_method_11_code 96 = .ok (.goto 14, 3) := by decide +kernel
theorem d_Tr_takeOut_99 : decode prog_8_method_11_code 99 = .ok (.aload_n 0, 1) := by decide +kernel
theorem d_Tr_takeOut_100 : decode prog_8_method_11_code 100 = .ok (.iload 4, 2) := by decide +kernel
theorem d_Tr_takeOut_102 : decode prog_8_method_11_code 102 = .ok (.aload 8, 2) := by decide +kernel
theorem d_Tr_takeOut_104 : decode prog_8_method_11_code 104 = .ok (.invokevirtual 62, 3) := by decide +kernel
theorem d_Tr_takeOut_107 : decode prog_8_method_11_code 107 = .ok (.iinc 4 1, 3) := by decide +kernel
theorem d_Tr_takeOut_110 : decode prog_8_method_11_code 110 = .ok (.iinc 7 1, 3) := by decide +kernel
theorem d_Tr_takeOut_113 : decode prog_8_method_11_code 113 = .ok (.goto (-89), 3) := by decide +kernel
theorem d_Tr_takeOut_116 : decode prog_8_method_11_code 116 = .ok (.aload_n 0, 1) := by decide +kernel
theorem d_Tr_takeOut_117 : decode prog_8_method_11_code 117 = .ok (.iload 4, 2) := by decide +kernel
theorem d_Tr_takeOut_119 : decode prog_8_method_11_code 119 = .ok (.putfield 24, 3) := by decide +kernel
theorem d_Tr_takeOut_122 : decode prog_8_method_11_code 122 = .ok (.iconst 0, 1) := by decide +kernel
theorem d_Tr_takeOut_123 : decode prog_8_method_11_code 123 = .ok (.istore 7, 2) := by decide +kernel
theorem d_Tr_takeOut_125 : decode prog_8_method_11_code 125 = .ok (.iload 7, 2) := by decide +kernel
theorem d_Tr_takeOut_127 : decode prog_8_method_11_code 127 = .ok (.iload_n 3, 1) := by decide +kernel
theorem d_Tr_takeOut_128 : decode prog_8_method_11_code 128 = .ok (.if_icmp .ge 26, 3) := by decide +kernel
theorem d_Tr_takeOut_131 : decode prog_8_method_11_code 131 = .ok (.aload_n 0, 1) := by decide +kernel
theorem d_Tr_takeOut_132 : decode prog_8_method_11_code 132 = .ok (.getfield 11, 3) := by decide +kernel
theorem d_Tr_takeOut_135 : decode prog_8_method_11_code 135 = .ok (.iload 4, 2) := by decide +kernel
theorem d_Tr_takeOut_137 : decode prog_8_method_11_code 137 = .ok (.iload 7, 2) := by decide +kernel
theorem d_Tr_takeOut_139 : decode prog_8_method_11_code 139 = .ok (.iadd, 1) := by decide +kernel
theorem d_Tr_takeOut_140 : decode prog_8_method_11_code 140 = .ok (.aload_n 0, 1) := by decide +kernel
theorem d_Tr_takeOut_141 : decode prog_8_method_11_code 141 = .ok (.getfield 17, 3) := by decide +kernel
theorem d_Tr_takeOut_144 : decode prog_8_method_11_code 144 = .ok (.iload 7, 2) := by decide +kernel
theorem d_Tr_takeOut_146 : decode prog_8_method_11_code 146 = .ok (.aaload, 1) := by decide +kernel
theorem d_Tr_takeOut_147 : decode prog_8_method_11_code 147 = .ok (.aastore, 1) := by decide +kernel
theorem d_Tr_takeOut_148 : decode prog_8_method_11_code 148 = .ok (.iinc 7 1, 3) := by decide +kernel
theorem d_Tr_takeOut_151 : decode prog_8_method_11_code 151 = .ok (.goto (-26), 3) := by decide +kernel
theorem d_Tr_takeOut_154 : decode prog_8_method_11_code 154 = .ok (.return_, 1) := by decide +kernel
theorem d_Tr_canStore_0 : decode prog_8_method_12_code 0 = .ok (.aload_n 0, 1) := by decide +kernel
theorem d_Tr_canStore_1 : decode prog_8_method_12_code 1 = .ok (.getfield 28, 3) := by decide +kernel
theorem d_Tr_canStore_4 : decode prog_8_method_12_code 4 = .ok (.iload_n 1, 1) := by decide +kernel
theorem d_Tr_canStore_5 : decode prog_8_method_12_code 5 = .ok (.iadd, 1) := by decide +kernel
theorem d_Tr_canStore_6 : decode prog_8_method_12_code 6 = .ok (.aload_n 0, 1) := by decide +kernel
theorem d_Tr_canStore_7 : decode prog_8_method_12_code 7 = .ok (.getfield 20, 3) := by decide +kernel
theorem d_Tr_canStore_10 : decode prog_8_method_12_code 10 = .ok (.arraylength, 1) := by decide +kernel
theorem d_Tr_canStore_11 : decode prog_8_method_12_code 11 = .ok (.if_icmp .gt 7, 3) := by decide +kernel
theorem d_Tr_canStore_14 : decode prog_8_method_12_code 14 = .ok (.iconst 1, 1) := by decide +kernel
theorem d_Tr_canStore_15 : decode prog_8_method_12_code 15 = .ok (.goto 4, 3) := by decide +kernel
theorem d_Tr_canStore_18 : decode prog_8_method_12_code 18 = .ok (.iconst 0, 1) := by decide +kernel
theorem d_Tr_canStore_19 : decode prog_8_method_12_code 19 = .ok (.ireturn, 1) := by decide +kernel
theorem d_Tr_beginStoring_0 : decode prog_8_method_13_code 0 = .ok (.aload_n 1, 1) := by decide +kernel
theorem d_Tr_beginStoring_1 : decode prog_8_method_13_code 1 = .ok (.aload_n 0, 1) := by decide +kernel
theorem d_Tr_beginStoring_2 : decode prog_8_method_13_code 2 = .ok (.getfield 28, 3) := by decide +kernel
theorem d_Tr_beginStoring_5 : decode prog_8_method_13_code 5 = .ok (.putfield 70, 3) := by decide +kernel
theorem d_Tr_beginStoring_8 : decode prog_8_method_13_code 8 = .ok (.aload_n 1, 1) := by decide +kernel
theorem d_Tr_beginStoring_9 : decode prog_8_method_13_code 9 = .ok (.iconst 0, 1) := by decide +kernel
theorem d_Tr_beginStoring_10 : decode prog_8_method_13_code 10 = .ok (.putfield 73, 3) := by decide +kernel
theorem d_Tr_beginStoring_13 : decode prog_8_method_13_code 13 = .ok (.return_, 1) := by decide +kernel
theorem d_Tr_storeFor_0 : decode prog_8_method_14_code 0 = .ok (.aload_n 0, 1) := by decide +kernel
theorem d_Tr_storeFor_1 : decode prog_8_method_14_code 1 = .ok (.getfield 28, 3) := by decide +kernel
theorem d_Tr_storeFor_4 : decode prog_8_method_14_code 4 = .ok (.aload_n 0, 1) := by decide +kernel
theorem d_Tr_storeFor_5 : decode prog_8_method_14_code 5 = .ok (.getfield 20, 3) := by decide +kernel
theorem d_Tr_storeFor_8 : decode prog_8_method_14_code 8 = .ok (.arraylength, 1) := by decide +kernel
theorem d_Tr_storeFor_9 : decode prog_8_method_14_code 9 = .ok (.if_icmp .ge 33, 3) := by decide +kernel
theorem d_Tr_storeFor_12 : decode prog_8_method_14_code 12 = .ok (.aload_n 0, 1) := by decide +kernel
theorem d_Tr_storeFor_13 : decode prog_8_method_14_code 13 = .ok (.getfield 20, 3) := by decide +kernel
theorem d_Tr_storeFor_16 : decode prog_8_method_14_code 16 = .ok (.aload_n 0, 1) := by decide +kernel
theorem d_Tr_storeFor_17 : decode prog_8_method_14_code 17 = .ok (.getfield 28, 3) := by decide +kernel
theorem d_Tr_storeFor_20 : decode prog_8_method_14_code 20 = .ok (.iload_n 2, 1) := by decide +kernel
theorem d_Tr_storeFor_21 : decode prog_8_method_14_code 21 = .ok (.iastore, 1) := by decide +kernel
theorem d_Tr_storeFor_22 : decode prog_8_method_14_code 22 = .ok (.aload_n 0, 1) := by decide +kernel
theorem d_Tr_storeFor_23 : decode prog_8_method_14_code 23 = .ok (.dup, 1) := by decide +kernel
theorem d_Tr_storeFor_24 : decode prog_8_method_14_code 24 = .ok (.getfield 28, 3) := by decide +kernel
theorem d_Tr_storeFor_27 : decode prog_8_method_14_code 27 = .ok (.iconst 1, 1) := by decide +kernel
theorem d_Tr_storeFor_28 : decode prog_8_method_14_code 28 = .ok (.iadd, 1) := by decide +kernel
theorem d_Tr_storeFor_29 : decode prog_8_method_14_code 29 = .ok (.putfield 28, 3) := by decide +kernel
theorem d_Tr_storeFor_32 : decode prog_8_method_14_code 32 = .ok (.aload_n 1, 1) := by decide +kernel
theorem d_Tr_storeFor_33 : decode prog_8_method_14_code 33 = .ok (.dup, 1) := by decide +kernel
theorem d_Tr_storeFor_34 : decode prog_8_method_14_code 34 = .ok (.getfield 73, 3) := by decide +kernel
theorem d_Tr_storeFor_37 : decode prog_8_method_14_code 37 = .ok (.iconst 1, 1) := by decide +kernel
theorem d_Tr_storeFor_38 : decode prog_8_method_14_code 38 = .ok (.iadd, 1) := by decide +kernel
theorem d_Tr_storeFor_39 : decode prog_8_method_14_code 39 = .ok (.putfield 73, 3) := by decide +kernel
theorem d_Tr_storeFor_42 : decode prog_8_method_14_code 42 = .ok (.return_, 1) := by decide +kernel
theorem d_Tr_storedAt_0 : decode prog_8_method_15_code 0 = .ok (.iload_n 1, 1) := by decide +kernel
theorem d_Tr_storedAt_1 : decode prog_8_method_15_code 1 = .ok (.ifCond .lt 20, 3) := by decide +kernel
theorem d_Tr_storedAt_4 : decode prog_8_method_15_code 4 = .ok (.iload_n 1, 1) := by decide +kernel
theorem d_Tr_storedAt_5 : decode prog_8_method_15_code 5 = .ok (.aload_n 0, 1) := by decide +kernel
theorem d_Tr_storedAt_6 : decode prog_8_method_15_code 6 = .ok (.getfield 28, 3) := by decide +kernel
theorem d_Tr_storedAt_9 : decode prog_8_method_15_code 9 = .ok (.if_icmp .ge 12, 3) := by decide +kernel
theorem d_Tr_storedAt_12 : decode prog_8_method_15_code 12 = .ok (.aload_n 0, 1) := by decide +kernel
theorem d_Tr_storedAt_13 : decode prog_8_method_15_code 13 = .ok (.getfield 20, 3) := by decide +kernel
theorem d_Tr_storedAt_16 : decode prog_8_method_15_code 16 = .ok (.iload_n 1, 1) := by decide +kernel
theorem d_Tr_storedAt_17 : decode prog_8_method_15_code 17 = .ok (.iaload, 1) := by decide +kernel
theorem d_Tr_storedAt_18 : decode prog_8_method_15_code 18 = .ok (.goto 4, 3) := by decide +kernel
theorem d_Tr_storedAt_21 : decode prog_8_method_15_code 21 = .ok (.iconst (-1), 1) := by decide +kernel
theorem d_Tr_storedAt_22 : decode prog_8_method_15_code 22 = .ok (.ireturn, 1) := by decide +kernel
theorem d_Re_init_0 : decode prog_5_method_1_code 0 = .ok (.aload_n 0, 1) := by decide +kernel
theorem d_Re_init_1 : decode prog_5_method_1_code 1 = .ok (.invokespecial 3, 3) := by decide +kernel
theorem d_Re_init_4 : decode prog_5_method_1_code 4 = .ok (.aload_n 0, 1) := by decide +kernel
theorem d_Re_init_5 : decode prog_5_method_1_code 5 = .ok (.iconst (-1), 1) := by decide +kernel
theorem d_Re_init_6 : decode prog_5_method_1_code 6 = .ok (.putfield 9, 3) := by decide +kernel
theorem d_Re_init_9 : decode prog_5_method_1_code 9 = .ok (.aload_n 0, 1) := by decide +kernel
theorem d_Re_init_10 : decode prog_5_method_1_code 10 = .ok (.aload_n 1, 1) := by decide +kernel
theorem d_Re_init_11 : decode prog_5_method_1_code 11 = .ok (.putfield 15, 3) := by decide +kernel
theorem d_Re_init_14 : decode prog_5_method_1_code 14 = .ok (.aload_n 0, 1) := by decide +kernel
theorem d_Re_init_15 : decode prog_5_method_1_code 15 = .ok (.aload_n 2, 1) := by decide +kernel
theorem d_Re_init_16 : decode prog_5_method_1_code 16 = .ok (.putfield 19, 3) := by decide +kernel
theorem d_Re_init_19 : decode prog_5_method_1_code 19 = .ok (.return_, 1) := by decide +kernel
theorem d_Re_readTree_0 : decode prog_5_method_2_code 0 = .ok (.aload_n 0, 1) := by decide +kernel
theorem d_Re_readTree_1 : decode prog_5_method_2_code 1 = .ok (.getfield 19, 3) := by decide +kernel
theorem d_Re_readTree_4 : decode prog_5_method_2_code 4 = .ok (.invokevirtual 23, 3) := by decide +kernel
theorem d_Re_readTree_7 : decode prog_5_method_2_code 7 = .ok (.aload_n 0, 1) := by decide +kernel
theorem d_Re_readTree_8 : decode prog_5_method_2_code 8 = .ok (.iconst (-1), 1) := by decide +kernel
theorem d_Re_readTree_9 : decode prog_5_method_2_code 9 = .ok (.putfield 9, 3) := by decide +kernel
theorem d_Re_readTree_12 : decode prog_5_method_2_code 12 = .ok (.aload_n 0, 1) := by decide +kernel
theorem d_Re_readTree_13 : decode prog_5_method_2_code 13 = .ok (.aconst_null, 1) := by decide +kernel
theorem d_Re_readTree_14 : decode prog_5_method_2_code 14 = .ok (.putfield 28, 3) := by decide +kernel
theorem d_Re_readTree_17 : decode prog_5_method_2_code 17 = .ok (.aload_n 0, 1) := by decide +kernel
theorem d_Re_readTree_18 : decode prog_5_method_2_code 18 = .ok (.iconst 0, 1) := by decide +kernel
theorem d_Re_readTree_19 : decode prog_5_method_2_code 19 = .ok (.putfield 32, 3) := by decide +kernel
theorem d_Re_readTree_22 : decode prog_5_method_2_code 22 = .ok (.iconst 0, 1) := by decide +kernel
theorem d_Re_readTree_23 : decode prog_5_method_2_code 23 = .ok (.istore_n 1, 1) := by decide +kernel
theorem d_Re_readTree_24 : decode prog_5_method_2_code 24 = .ok (.iload_n 1, 1) := by decide +kernel
theorem d_Re_readTree_25 : decode prog_5_method_2_code 25 = .ok (.bipush 60, 2) := by decide +kernel
theorem d_Re_readTree_27 : decode prog_5_method_2_code 27 = .ok (.if_icmp .gt 70, 3) := by decide +kernel
theorem d_Re_readTree_30 : decode prog_5_method_2_code 30 = .ok (.aload_n 0, 1) := by decide +kernel
theorem d_Re_readTree_31 : decode prog_5_method_2_code 31 = .ok (.getfield 32, 3) := by decide +kernel
theorem d_Re_readTree_34 : decode prog_5_method_2_code 34 = .ok (.aload_n 0, 1) := by decide +kernel
theorem d_Re_readTree_35 : decode prog_5_method_2_code 35 = .ok (.getfield 15, 3) := by decide +kernel
theorem d_Re_readTree_38 : decode prog_5_method_2_code 38 = .ok (.getfield 35, 3) := by decide +kernel
theorem d_Re_readTree_41 : decode prog_5_method_2_code 41 = .ok (.if_icmp .ge 56, 3) := by decide +kernel
theorem d_Re_readTree_44 : decode prog_5_method_2_code 44 = .ok (.aload_n 0, 1) := by decide +kernel
theorem d_Re_readTree_45 : decode prog_5_method_2_code 45 = .ok (.getfield 32, 3) := by decide +kernel
theorem d_Re_readTree_48 : decode prog_5_method_2_code 48 = .ok (.istore_n 2, 1) := by decide +kernel
theorem d_Re_readTree_49 : decode prog_5_method_2_code 49 = .ok (.aload_n 0, 1) := by decide +kernel
theorem d_Re_readTree_50 : decode prog_5_method_2_code 50 = .ok (.invokevirtual 40, 3) := by decide +kernel
theorem d_Re_readTree_53 : decode prog_5_method_2_code 53 = .ok (.istore_n 3, 1) := by decide +kernel
theorem d_Re_readTree_54 : decode prog_5_method_2_code 54 = .ok (.iload_n 3, 1) := by decide +kernel
theorem d_Re_readTree_55 : decode prog_5_method_2_code 55 = .ok (.ifCond .ne 8, 3) := by decide +kernel
theorem d_Re_readTree_58 : decode prog_5_method_2_code 58 = .ok (.aload_n 0, 1) := by decide +kernel
theorem d_Re_readTree_59 : decode prog_5_method_2_code 59 = .ok (.invokevirtual 44, 3) := by decide +kernel
theorem d_Re_readTree_62 : decode prog_5_method_2_code 62 = .ok (.istore_n 3, 1) := by decide +kernel
theorem d_Re_readTree_63 : decode prog_5_method_2_code 63 = .ok (.iload_n 3, 1) := by decide +kernel
theorem d_Re_readTree_64 : decode prog_5_method_2_code 64 = .ok (.ifCond .ne 8, 3) := by decide +kernel
theorem d_Re_readTree_67 : decode prog_5_method_2_code 67 = .ok (.aload_n 0, 1) := by decide +kernel
theorem d_Re_readTree_68 : decode prog_5_method_2_code 68 = .ok (.invokevirtual 47, 3) := by decide +kernel
theorem d_Re_readTree_71 : decode prog_5_method_2_code 71 = .ok (.istore_n 3, 1) := by decide +kernel
theorem d_Re_readTree_72 : decode prog_5_method_2_code 72 = .ok (.iload_n 3, 1) := by decide +kernel
theorem d_Re_readTree_73 : decode prog_5_method_2_code 73 = .ok (.ifCond .ge 18, 3) := by decide +kernel
theorem d_Re_readTree_76 : decode prog_5_method_2_code 76 = .ok (.aload_n 0, 1) := by decide +kernel
theorem d_Re_readTree_77 : decode prog_5_method_2_code 77 = .ok (.iload_n 2, 1) := by decide +kernel
theorem d_Re_readTree_78 : decode prog_5_method_2_code 78 = .ok (.putfield 9, 3) := by decide +kernel
theorem d_Re_readTree_81 : decode prog_5_method_2_code 81 = .ok (.aload_n 0, 1) := by decide +kernel
theorem d_Re_readTree_82 : decode prog_5_method_2_code 82 = .ok (.getfield 19, 3) := by decide +kernel
theorem d_Re_readTree_85 : decode prog_5_method_2_code 85 = .ok (.iconst 0, 1) := by decide +kernel
theorem d_Re_readTree_86 : decode prog_5_method_2_code 86 = .ok (.putfield 50, 3) := by decide +kernel
theorem d_Re_readTree_89 : decode prog_5_method_2_code 89 = .ok (.iload_n 3, 1) := by decide +kernel
theorem d_Re_readTree_90 : decode prog_5_method_2_code 90 = .ok (.ireturn, 1) := by decide +kernel
theorem d_Re_readTree_91 : decode prog_5_method_2_code 91 = .ok (.iinc 1 1, 3) := by decide +kernel
theorem d_Re_readTree_94 : decode prog_5_method_2_code 94 = .ok (.goto (-70), 3) := by decide +kernel
theorem d_Re_readTree_97 : decode prog_5_method_2_code 97 = .ok (.aload_n 0, 1) := by decide +kernel
theorem d_Re_readTree_98 : decode prog_5_method_2_code 98 = .ok (.getfield 19, 3) := by decide +kernel
theorem d_Re_readTree_101 : decode prog_5_method_2_code 101 = .ok (.getfield 50, 3) := by decide +kernel
theorem d_Re_readTree_104 : decode prog_5_method_2_code 104 = .ok (.ireturn, 1) := by decide +kernel
theorem d_Re_readTag_0 : decode prog_5_method_3_code 0 = .ok (.aload_n 0, 1) := by decide +kernel
theorem d_Re_readTag_1 : decode prog_5_method_3_code 1 = .ok (.getfield 28, 3) := by decide +kernel
theorem d_Re_readTag_4 : decode prog_5_method_3_code 4 = .ok (.ifnull 31, 3) := by decide +kernel
theorem d_Re_readTag_7 : decode prog_5_method_3_code 7 = .ok (.aload_n 0, 1) := by decide +kernel
theorem d_Re_readTag_8 : decode prog_5_method_3_code 8 = .ok (.getfield 32, 3) := by decide +kernel
theorem d_Re_readTag_11 : decode prog_5_method_3_code 11 = .ok (.aload_n 0, 1) := by decide +kernel
theorem d_Re_readTag_12 : decode prog_5_method_3_code 12 = .ok (.getfield 28, 3) := by decide +kernel
theorem d_Re_readTag_15 : decode prog_5_method_3_code 15 = .ok (.getfield 51, 3) := by decide +kernel
theorem d_Re_readTag_18 : decode prog_5_method_3_code 18 = .ok (.if_icmp .lt 17, 3) := by decide +kernel
theorem d_Re_readTag_21 : decode prog_5_method_3_code 21 = .ok (.aload_n 0, 1) := by decide +kernel
theorem d_Re_readTag_22 : decode prog_5_method_3_code 22 = .ok (.aload_n 0, 1) := by decide +kernel
theorem d_Re_readTag_23 : decode prog_5_method_3_code 23 = .ok (.getfield 28, 3) := by decide +kernel
theorem d_Re_readTag_26 : decode prog_5_method_3_code 26 = .ok (.getfield 56, 3) := by decide +kernel
theorem d_Re_readTag_29 : decode prog_5_method_3_code 29 = .ok (.putfield 28, 3) := by decide +kernel
theorem d_Re_readTag_32 : decode prog_5_method_3_code 32 = .ok (.goto (-32), 3) := by decide +kernel
theorem d_Re_readTag_35 : decode prog_5_method_3_code 35 = .ok (.aload_n 0, 1) := by decide +kernel
theorem d_Re_readTag_36 : decode prog_5_method_3_code 36 = .ok (.aload_n 0, 1) := by decide +kernel
theorem d_Re_readTag_37 : decode prog_5_method_3_code 37 = .ok (.getfield 28, 3) := by decide +kernel
theorem d_Re_readTag_40 : decode prog_5_method_3_code 40 = .ok (.ifnonnull 13, 3) := by decide +kernel
theorem d_Re_readTag_43 : decode prog_5_method_3_code 43 = .ok (.aload_n 0, 1) := by decide +kernel
theorem d_Re_readTag_44 : decode prog_5_method_3_code 44 = .ok (.getfield 15, 3) := by decide +kernel
theorem d_Re_readTag_47 : decode prog_5_method_3_code 47 = .ok (.getfield 35, 3) := by decide +kernel
theorem d_Re_readTag_50 : decode prog_5_method_3_code 50 = .ok (.goto 10, 3) := by decide +kernel
theorem d_Re_readTag_53 : decode prog_5_method_3_code 53 = .ok (.aload_n 0, 1) := by decide +kernel
theorem d_Re_readTag_54 : decode prog_5_method_3_code 54 = .ok (.getfield 28, 3) := by decide +kernel
theorem d_Re_readTag_57 : decode prog_5_method_3_code 57 = .ok (.getfield 51, 3) := by decide +kernel
theorem d_Re_readTag_60 : decode prog_5_method_3_code 60 = .ok (.putfield 57, 3) := by decide +kernel
theorem d_Re_readTag_63 : decode prog_5_method_3_code 63 = .ok (.aload_n 0, 1) := by decide +kernel
theorem d_Re_readTag_64 : decode prog_5_method_3_code 64 = .ok (.getfield 15, 3) := by decide +kernel
theorem d_Re_readTag_67 : decode prog_5_method_3_code 67 = .ok (.aload_n 0, 1) := by decide +kernel
theorem d_Re_readTag_68 : decode prog_5_method_3_code 68 = .ok (.getfield 32, 3) := by decide +kernel
theorem d_Re_readTag_71 : decode prog_5_method_3_code 71 = .ok (.invokevirtual 58, 3) := by decide +kernel
theorem d_Re_readTag_74 : decode prog_5_method_3_code 74 = .ok (.istore_n 1, 1) := by decide +kernel
theorem d_Re_readTag_75 : decode prog_5_method_3_code 75 = .ok (.iload_n 1, 1) := by decide +kernel
theorem d_Re_readTag_76 : decode prog_5_method_3_code 76 = .ok (.bipush 16, 2) := by decide +kernel
theorem d_Re_readTag_78 : decode prog_5_method_3_code 78 = .ok (.if_icmp .ge 6, 3) := by decide +kernel
theorem d_Re_readTag_81 : decode prog_5_method_3_code 81 = .ok (.bipush (-3), 2) := by decide +kernel
theorem d_Re_readTag_83 : decode prog_5_method_3_code 83 = .ok (.ireturn, 1) := by decide +kernel
theorem d_Re_readTag_84 : decode prog_5_method_3_code 84 = .ok (.iload_n 1, 1) := by decide +kernel
theorem d_Re_readTag_85 : decode prog_5_method_3_code 85 = .ok (.invokestatic 62, 3) := by decide +kernel
theorem d_Re_readTag_88 : decode prog_5_method_3_code 88 = .ok (.istore_n 2, 1) := by decide +kernel
theorem d_Re_readTag_89 : decode prog_5_method_3_code 89 = .ok (.iload_n 2, 1) := by decide +kernel
theorem d_Re_readTag_90 : decode prog_5_method_3_code 90 = .ok (.aload_n 0, 1) := by decide +kernel
theorem d_Re_readTag_91 : decode prog_5_method_3_code 91 = .ok (.getfield 57, 3) := by decide +kernel
theorem d_Re_readTag_94 : decode prog_5_method_3_code 94 = .ok (.aload_n 0, 1) := by decide +kernel
theorem d_Re_readTag_95 : decode prog_5_method_3_code 95 = .ok (.getfield 32, 3) := by decide +kernel
theorem d_Re_readTag_98 : decode prog_5_method_3_code 98 = .ok (.isub, 1) := by decide +kernel
theorem d_Re_readTag_99 : decode prog_5_method_3_code 99 = .ok (.if_icmp .le 6, 3) := by decide +kernel
theorem d_Re_readTag_102 : decode prog_5_method_3_code 102 = .ok (.bipush (-2), 2) := by decide +kernel
theorem d_Re_readTag_104 : decode prog_5_method_3_code 104 = .ok (.ireturn, 1) := by decide +kernel
theorem d_Re_readTag_105 : decode prog_5_method_3_code 105 = .ok (.aload_n 0, 1) := by decide +kernel
theorem d_Re_readTag_106 : decode prog_5_method_3_code 106 = .ok (.aload_n 0, 1) := by decide +kernel
theorem d_Re_readTag_107 : decode prog_5_method_3_code 107 = .ok (.iload_n 2, 1) := by decide +kernel
theorem d_Re_readTag_108 : decode prog_5_method_3_code 108 = .ok (.invokevirtual 65, 3) := by decide +kernel
theorem d_Re_readTag_111 : decode prog_5_method_3_code 111 = .ok (.l2i, 1) := by decide +kernel
theorem d_Re_readTag_112 : decode prog_5_method_3_code 112 = .ok (.putfield 69, 3) := by decide +kernel
theorem d_Re_readTag_115 : decode prog_5_method_3_code 115 = .ok (.aload_n 0, 1) := by decide +kernel
theorem d_Re_readTag_116 : decode prog_5_method_3_code 116 = .ok (.getfield 69, 3) := by decide +kernel
theorem d_Re_readTag_119 : decode prog_5_method_3_code 119 = .ok (.invokestatic 72, 3) := by decide +kernel
theorem d_Re_readTag_122 : decode prog_5_method_3_code 122 = .ok (.astore_n 3, 1) := by decide +kernel
theorem d_Re_readTag_123 : decode prog_5_method_3_code 123 = .ok (.aload_n 0, 1) := by decide +kernel
theorem d_Re_readTag_124 : decode prog_5_method_3_code 124 = .ok (.getfield 28, 3) := by decide +kernel
theorem d_Re_readTag_127 : decode prog_5_method_3_code 127 = .ok (.ifnull 44, 3) := by decide +kernel
theorem d_Re_readTag_130 : decode prog_5_method_3_code 130 = .ok (.aload_n 0, 1) := by decide +kernel
theorem d_Re_readTag_131 : decode prog_5_method_3_code 131 = .ok (.getfield 28, 3) := by decide +kernel
theorem d_Re_readTag_134 : decode prog_5_method_3_code 134 = .ok (.getfield 78, 3) := by decide +kernel
theorem d_Re_readTag_137 : decode prog_5_method_3_code 137 = .ok (.ifCond .eq 34, 3) := by decide +kernel
theorem d_Re_readTag_140 : decode prog_5_method_3_code 140 = .ok (.aload_n 3, 1) := by decide +kernel
theorem d_Re_readTag_141 : decode prog_5_method_3_code 141 = .ok (.aload_n 0, 1) := by decide +kernel
theorem d_Re_readTag_142 : decode prog_5_method_3_code 142 = .ok (.getfield 28, 3) := by decide +kernel
theorem d_Re_readTag_145 : decode prog_5_method_3_code 145 = .ok (.getfield 82, 3) := by decide +kernel
theorem d_Re_readTag_148 : decode prog_5_method_3_code 148 = .ok (.getfield 86, 3) := by decide +kernel
theorem d_Re_readTag_151 : decode prog_5_method_3_code 151 = .ok (.invokevirtual 89, 3) := by decide +kernel
theorem d_Re_readTag_154 : decode prog_5_method_3_code 154 = .ok (.ifCond .ne 17, 3) := by decide +kernel
theorem d_Re_readTag_157 : decode prog_5_method_3_code 157 = .ok (.aload_n 0, 1) := by decide +kernel
theorem d_Re_readTag_158 : decode prog_5_method_3_code 158 = .ok (.aload_n 0, 1) := by decide +kernel
theorem d_Re_readTag_159 : decode prog_5_method_3_code 159 = .ok (.getfield 28, 3) := by decide +kernel
theorem d_Re_readTag_162 : decode prog_5_method_3_code 162 = .ok (.getfield 56, 3) := by decide +kernel
theorem d_Re_readTag_165 : decode prog_5_method_3_code 165 = .ok (.putfield 28, 3) := by decide +kernel
theorem d_Re_readTag_168 : decode prog_5_method_3_code 168 = .ok (.goto (-45), 3) := by decide +kernel
theorem d_Re_readTag_171 : decode prog_5_method_3_code 171 = .ok (.aload_n 0, 1) := by decide +kernel
theorem d_Re_readTag_172 : decode prog_5_method_3_code 172 = .ok (.getfield 19, 3) := by decide +kernel
theorem d_Re_readTag_175 : decode prog_5_method_3_code 175 = .ok (.aload_n 3, 1) := by decide +kernel
theorem d_Re_readTag_176 : decode prog_5_method_3_code 176 = .ok (.aload_n 0, 1) := by decide +kernel
theorem d_Re_readTag_177 : decode prog_5_method_3_code 177 = .ok (.getfield 28, 3) := by decide +kernel
theorem d_Re_readTag_180 : decode prog_5_method_3_code 180 = .ok (.invokevirtual 93, 3) := by decide +kernel
theorem d_Re_readTag_183 : decode prog_5_method_3_code 183 = .ok (.ifCond .eq 7, 3) := by decide +kernel
theorem d_Re_readTag_186 : decode prog_5_method_3_code 186 = .ok (.iconst 0, 1) := by decide +kernel
theorem d_Re_readTag_187 : decode prog_5_method_3_code 187 = .ok (.goto 5, 3) := by decide +kernel
theorem d_Re_readTag_190 : decode prog_5_method_3_code 190 = .ok (.bipush (-4), 2) := by decide +kernel
theorem d_Re_readTag_192 : decode prog_5_method_3_code 192 = .ok (.ireturn, 1) := by decide +kernel
theorem d_Re_readSize_0 : decode prog_5_method_4_code 0 = .ok (.aload_n 0, 1) := by decide +kernel
theorem d_Re_readSize_1 : decode prog_5_method_4_code 1 = .ok (.getfield 32, 3) := by decide +kernel
theorem d_Re_readSize_4 : decode prog_5_method_4_code 4 = .ok (.aload_n 0, 1) := by decide +kernel
theorem d_Re_readSize_5 : decode prog_5_method_4_code 5 = .ok (.getfield 57, 3) := by decide +kernel
theorem d_Re_readSize_8 : decode prog_5_method_4_code 8 = .ok (.if_icmp .lt 6, 3) := by decide +kernel
theorem d_Re_readSize_11 : decode prog_5_method_4_code 11 = .ok (.bipush (-2), 2) := by decide +kernel
theorem d_Re_readSize_13 : decode prog_5_method_4_code 13 = .ok (.ireturn, 1) := by decide +kernel
theorem d_Re_readSize_14 : decode prog_5_method_4_code 14 = .ok (.aload_n 0, 1) := by decide +kernel
theorem d_Re_readSize_15 : decode prog_5_method_4_code 15 = .ok (.getfield 15, 3) := by decide +kernel
theorem d_Re_readSize_18 : decode prog_5_method_4_code 18 = .ok (.aload_n 0, 1) := by decide +kernel
theorem d_Re_readSize_19 : decode prog_5_method_4_code 19 = .ok (.getfield 32, 3) := by decide +kernel
theorem d_Re_readSize_22 : decode prog_5_method_4_code 22 = .ok (.invokevirtual 58, 3) := by decide +kernel
theorem d_Re_readSize_25 : decode prog_5_method_4_code 25 = .ok (.ifCond .ne 6, 3) := by decide +kernel
theorem d_Re_readSize_28 : decode prog_5_method_4_code 28 = .ok (.bipush (-3), 2) := by decide +kernel
theorem d_Re_readSize_30 : decode prog_5_method_4_code 30 = .ok (.ireturn, 1) := by decide +kernel
theorem d_Re_readSize_31 : decode prog_5_method_4_code 31 = .ok (.aload_n 0, 1) := by decide +kernel
theorem d_Re_readSize_32 : decode prog_5_method_4_code 32 = .ok (.invokevirtual 97, 3) := by decide +kernel
theorem d_Re_readSize_35 : decode prog_5_method_4_code 35 = .ok (.lstore_n 1, 1) := by decide +kernel
theorem d_Re_readSize_36 : decode prog_5_method_4_code 36 = .ok (.lload_n 1, 1) := by decide +kernel
theorem d_Re_readSize_37 : decode prog_5_method_4_code 37 = .ok (.lconst 0, 1) := by decide +kernel
theorem d_Re_readSize_38 : decode prog_5_method_4_code 38 = .ok (.lcmp, 1) := by decide +kernel
theorem d_Re_readSize_39 : decode prog_5_method_4_code 39 = .ok (.ifCond .ge 6, 3) := by decide +kernel
theorem d_Re_readSize_42 : decode prog_5_method_4_code 42 = .ok (.bipush (-2), 2) := by decide +kernel
theorem d_Re_readSize_44 : decode prog_5_method_4_code 44 = .ok (.ireturn, 1) := by decide +kernel
theorem d_Re_readSize_45 : decode prog_5_method_4_code 45 = .ok (.aload_n 0, 1) := by decide +kernel
theorem d_Re_readSize_46 : decode prog_5_method_4_code 46 = .ok (.getfield 101, 3) := by decide +kernel
theorem d_Re_readSize_49 : decode prog_5_method_4_code 49 = .ok (.istore_n 3, 1) := by decide +kernel
theorem d_Re_readSize_50 : decode prog_5_method_4_code 50 = .ok (.aload_n 0, 1) := by decide +kernel
theorem d_Re_readSize_51 : decode prog_5_method_4_code 51 = .ok (.getfield 69, 3) := by decide +kernel
theorem d_Re_readSize_54 : decode prog_5_method_4_code 54 = .ok (.invokestatic 72, 3) := by decide +kernel
theorem d_Re_readSize_57 : decode prog_5_method_4_code 57 = .ok (.astore 4, 2) := by decide +kernel
theorem d_Re_readSize_59 : decode prog_5_method_4_code 59 = .ok (.iload_n 3, 1) := by decide +kernel
theorem d_Re_readSize_60 : decode prog_5_method_4_code 60 = .ok (.ifCond .eq 22, 3) := by decide +kernel
theorem d_Re_readSize_63 : decode prog_5_method_4_code 63 = .ok (.aload 4, 2) := by decide +kernel
theorem d_Re_readSize_65 : decode prog_5_method_4_code 65 = .ok (.getstatic 104, 3) := by decide +kernel
theorem d_Re_readSize_68 : decode prog_5_method_4_code 68 = .ok (.if_acmp .eq 14, 3) := by decide +kernel
theorem d_Re_readSize_71 : decode prog_5_method_4_code 71 = .ok (.aload 4, 2) := by decide +kernel
theorem d_Re_readSize_73 : decode prog_5_method_4_code 73 = .ok (.getstatic 107, 3) := by decide +kernel
theorem d_Re_readSize_76 : decode prog_5_method_4_code 76 = .ok (.if_acmp .eq 6, 3) := by decide +kernel
theorem d_Re_readSize_79 : decode prog_5_method_4_code 79 = .ok (.bipush (-5), 2) := by decide +kernel
theorem d_Re_readSize_81 : decode prog_5_method_4_code 81 = .ok (.ireturn, 1) := by decide +kernel
theorem d_Re_readSize_82 : decode prog_5_method_4_code 82 = .ok (.iload_n 3, 1) := by decide +kernel
theorem d_Re_readSize_83 : decode prog_5_method_4_code 83 = .ok (.ifCond .ne 21, 3) := by decide +kernel
theorem d_Re_readSize_86 : decode prog_5_method_4_code 86 = .ok (.lload_n 1, 1) := by decide +kernel
theorem d_Re_readSize_87 : decode prog_5_method_4_code 87 = .ok (.aload_n 0, 1) := by decide +kernel
theorem d_Re_readSize_88 : decode prog_5_method_4_code 88 = .ok (.getfield 57, 3) := by decide +kernel
theorem d_Re_readSize_91 : decode prog_5_method_4_code 91 = .ok (.aload_n 0, 1) := by decide +kernel
theorem d_Re_readSize_92 : decode prog_5_method_4_code 92 = .ok (.getfield 32, 3) := by decide +kernel
theorem d_Re_readSize_95 : decode prog_5_method_4_code 95 = .ok (.isub, 1) := by decide +kernel
theorem d_Re_readSize_96 : decode prog_5_method_4_code 96 = .ok (.i2l, 1) := by decide +kernel
theorem d_Re_readSize_97 : decode prog_5_method_4_code 97 = .ok (.lcmp, 1) := by decide +kernel
theorem d_Re_readSize_98 : decode prog_5_method_4_code 98 = .ok (.ifCond .le 6, 3) := by decide +kernel
theorem d_Re_readSize_101 : decode prog_5_method_4_code 101 = .ok (.bipush (-2), 2) := by decide +kernel
theorem d_Re_readSize_103 : decode prog_5_method_4_code 103 = .ok (.ireturn, 1) := by decide +kernel
theorem d_Re_readSize_104 : decode prog_5_method_4_code 104 = .ok (.aload_n 0, 1) := by decide +kernel
theorem d_Re_readSize_105 : decode prog_5_method_4_code 105 = .ok (.getfield 19, 3) := by decide +kernel
theorem d_Re_readSize_108 : decode prog_5_method_4_code 108 = .ok (.aload_n 0, 1) := by decide +kernel
theorem d_Re_readSize_109 : decode prog_5_method_4_code 109 = .ok (.getfield 28, 3) := by decide +kernel
theorem d_Re_readSize_112 : decode prog_5_method_4_code 112 = .ok (.aload 4, 2) := by decide +kernel
theorem d_Re_readSize_114 : decode prog_5_method_4_code 114 = .ok (.aload_n 0, 1) := by decide +kernel
theorem d_Re_readSize_115 : decode prog_5_method_4_code 115 = .ok (.getfield 69, 3) := by decide +kernel
theorem d_Re_readSize_118 : decode prog_5_method_4_code 118 = .ok (.invokevirtual 110, 3) := by decide +kernel
theorem d_Re_readSize_121 : decode prog_5_method_4_code 121 = .ok (.astore 5, 2) := by decide +kernel
theorem d_Re_readSize_123 : decode prog_5_method_4_code 123 = .ok (.aload 5, 2) := by decide +kernel
theorem d_Re_readSize_125 : decode prog_5_method_4_code 125 = .ok (.ifnonnull 6, 3) := by decide +kernel
theorem d_Re_readSize_128 : decode prog_5_method_4_code 128 = .ok (.bipush (-6), 2) := by decide +kernel
theorem d_Re_readSize_130 : decode prog_5_method_4_code 130 = .ok (.ireturn, 1) := by decide +kernel
theorem d_Re_readSize_131 : decode prog_5_method_4_code 131 = .ok (.iload_n 3, 1) := by decide +kernel
theorem d_Re_readSize_132 : decode prog_5_method_4_code 132 = .ok (.ifCond .ne 14, 3) := by decide +kernel
theorem d_Re_readSize_135 : decode prog_5_method_4_code 135 = .ok (.aload_n 0, 1) := by decide +kernel
theorem d_Re_readSize_136 : decode prog_5_method_4_code 136 = .ok (.aload_n 0, 1) := by decide +kernel
theorem d_Re_readSize_137 : decode prog_5_method_4_code 137 = .ok (.getfield 32, 3) := by decide +kernel
theorem d_Re_readSize_140 : decode prog_5_method_4_code 140 = .ok (.lload_n 1, 1) := by decide +kernel
theorem d_Re_readSize_141 : decode prog_5_method_4_code 141 = .ok (.l2i, 1) := by decide +kernel
theorem d_Re_readSize_142 : decode prog_5_method_4_code 142 = .ok (.iadd, 1) := by decide +kernel
theorem d_Re_readSize_143 : decode prog_5_method_4_code 143 = .ok (.putfield 57, 3) := by decide +kernel
theorem d_Re_readSize_146 : decode prog_5_method_4_code 146 = .ok (.aload 5, 2) := by decide +kernel
theorem d_Re_readSize_148 : decode prog_5_method_4_code 148 = .ok (.aload_n 0, 1) := by decide +kernel
theorem d_Re_readSize_149 : decode prog_5_method_4_code 149 = .ok (.getfield 57, 3) := by decide +kernel
theorem d_Re_readSize_152 : decode prog_5_method_4_code 152 = .ok (.putfield 51, 3) := by decide +kernel
theorem d_Re_readSize_155 : decode prog_5_method_4_code 155 = .ok (.aload 5, 2) := by decide +kernel
theorem d_Re_readSize_157 : decode prog_5_method_4_code 157 = .ok (.iload_n 3, 1) := by decide +kernel
theorem d_Re_readSize_158 : decode prog_5_method_4_code 158 = .ok (.putfield 78, 3) := by decide +kernel
theorem d_Re_readSize_161 : decode prog_5_method_4_code 161 = .ok (.iconst 0, 1) := by decide +kernel
theorem d_Re_readSize_162 : decode prog_5_method_4_code 162 = .ok (.ireturn, 1) := by decide +kernel
theorem d_Re_readData_0 : decode prog_5_method_5_code 0 = .ok (.aload_n 0, 1) := by decide +kernel
theorem d_Re_readData_1 : decode prog_5_method_5_code 1 = .ok (.getfield 19, 3) := by decide +kernel
theorem d_Re_readData_4 : decode prog_5_method_5_code 4 = .ok (.aload_n 0, 1) := by decide +kernel
theorem d_Re_readData_5 : decode prog_5_method_5_code 5 = .ok (.getfield 19, 3) := by decide +kernel
theorem d_Re_readData_8 : decode prog_5_method_5_code 8 = .ok (.getfield 50, 3) := by decide +kernel
theorem d_Re_readData_11 : decode prog_5_method_5_code 11 = .ok (.iconst 1, 1) := by decide +kernel
theorem d_Re_readData_12 : decode prog_5_method_5_code 12 = .ok (.isub, 1) := by decide +kernel
theorem d_Re_readData_13 : decode prog_5_method_5_code 13 = .ok (.invokevirtual 114, 3) := by decide +kernel
theorem d_Re_readData_16 : decode prog_5_method_5_code 16 = .ok (.astore_n 1, 1) := by decide +kernel
theorem d_Re_readData_17 : decode prog_5_method_5_code 17 = .ok (.aload_n 1, 1) := by decide +kernel
theorem d_Re_readData_18 : decode prog_5_method_5_code 18 = .ok (.ifnonnull 6, 3) := by decide +kernel
theorem d_Re_readData_21 : decode prog_5_method_5_code 21 = .ok (.bipush (-6), 2) := by decide +kernel
theorem d_Re_readData_23 : decode prog_5_method_5_code 23 = .ok (.ireturn, 1) := by decide +kernel
theorem d_Re_readData_24 : decode prog_5_method_5_code 24 = .ok (.iconst 1, 1) := by decide +kernel
theorem d_Re_readData_25 : decode prog_5_method_5_code 25 = .ok (.istore_n 2, 1) := by decide +kernel
theorem d_Re_readData_26 : decode prog_5_method_5_code 26 = .ok (.aload_n 1, 1) := by decide +kernel
theorem d_Re_readData_27 : decode prog_5_method_5_code 27 = .ok (.getfield 82, 3) := by decide +kernel
theorem d_Re_readData_30 : decode prog_5_method_5_code 30 = .ok (.getfield 117, 3) := by decide +kernel
theorem d_Re_readData_33 : decode prog_5_method_5_code 33 = .ok (.tableswitch 158 0 6 #[43, 50, 95, 104, 127, 158, 136], 43) := by decide +kernel
theorem d_Re_readData_76 : decode prog_5_method_5_code 76 = .ok (.aload_n 0, 1) := by decide +kernel
theorem d_Re_readData_77 : decode prog_5_method_5_code 77 = .ok (.aload_n 1, 1) := by decide +kernel
theorem d_Re_readData_78 : decode prog_5_method_5_code 78 = .ok (.putfield 28, 3) := by decide +kernel
theorem d_Re_readData_81 : decode prog_5_method_5_code 81 = .ok (.iconst 0, 1) := by decide +kernel
theorem d_Re_readData_82 : decode prog_5_method_5_code 82 = .ok (.ireturn, 1) := by decide +kernel
theorem d_Re_readData_83 : decode prog_5_method_5_code 83 = .ok (.aload_n 0, 1) := by decide +kernel
theorem d_Re_readData_84 : decode prog_5_method_5_code 84 = .ok (.getfield 57, 3) := by decide +kernel
theorem d_Re_readData_87 : decode prog_5_method_5_code 87 = .ok (.aload_n 0, 1) := by decide +kernel
theorem d_Re_readData_88 : decode prog_5_method_5_code 88 = .ok (.getfield 32, 3) := by decide +kernel
theorem d_Re_readData_91 : decode prog_5_method_5_code 91 = .ok (.isub, 1) := by decide +kernel
theorem d_Re_readData_92 : decode prog_5_method_5_code 92 = .ok (.bipush 8, 2) := by decide +kernel
theorem d_Re_readData_94 : decode prog_5_method_5_code 94 = .ok (.if_icmp .gt 7, 3) := by decide +kernel
theorem d_Re_readData_97 : decode prog_5_method_5_code 97 = .ok (.iconst 1, 1) := by decide +kernel
theorem d_Re_readData_98 : decode prog_5_method_5_code 98 = .ok (.goto 4, 3) := by decide +kernel
theorem d_Re_readData_101 : decode prog_5_method_5_code 101 = .ok (.iconst 0, 1) := by decide +kernel
theorem d_Re_readData_102 : decode prog_5_method_5_code 102 = .ok (.istore_n 2, 1) := by decide +kernel
theorem d_Re_readData_103 : decode prog_5_method_5_code 103 = .ok (.aload_n 1, 1) := by decide +kernel
theorem d_Re_readData_104 : decode prog_5_method_5_code 104 = .ok (.aload_n 0, 1) := by decide +kernel
theorem d_Re_readData_105 : decode prog_5_method_5_code 105 = .ok (.aload_n 0, 1) := by decide +kernel
theorem d_Re_readData_106 : decode prog_5_method_5_code 106 = .ok (.getfield 57, 3) := by decide +kernel
theorem d_Re_readData_109 : decode prog_5_method_5_code 109 = .ok (.aload_n 0, 1) := by decide +kernel
theorem d_Re_readData_110 : decode prog_5_method_5_code 110 = .ok (.getfield 32, 3) := by decide +kernel
theorem d_Re_readData_113 : decode prog_5_method_5_code 113 = .ok (.isub, 1) := by decide +kernel
theorem d_Re_readData_114 : decode prog_5_method_5_code 114 = .ok (.bipush 8, 2) := by decide +kernel
theorem d_Re_readData_116 : decode prog_5_method_5_code 116 = .ok (.invokestatic 120, 3) := by decide +kernel
theorem d_Re_readData_119 : decode prog_5_method_5_code 119 = .ok (.invokevirtual 65, 3) := by decide +kernel
theorem d_Re_readData_122 : decode prog_5_method_5_code 122 = .ok (.putfield 126, 3) := by decide +kernel
theorem d_Re_readData_125 : decode prog_5_method_5_code 125 = .ok (.goto 80, 3) := by decide +kernel
theorem d_Re_readData_128 : decode prog_5_method_5_code 128 = .ok (.aload_n 0, 1) := by decide +kernel
theorem d_Re_readData_129 : decode prog_5_method_5_code 129 = .ok (.aload_n 1, 1) := by decide +kernel
theorem d_Re_readData_130 : decode prog_5_method_5_code 130 = .ok (.invokevirtual 130, 3) := by decide +kernel
theorem d_Re_readData_133 : decode prog_5_method_5_code 133 = .ok (.istore_n 2, 1) := by decide +kernel
theorem d_Re_readData_134 : decode prog_5_method_5_code 134 = .ok (.goto 71, 3) := by decide +kernel
theorem d_Re_readData_137 : decode prog_5_method_5_code 137 = .ok (.aload_n 0, 1) := by decide +kernel
theorem d_Re_readData_138 : decode prog_5_method_5_code 138 = .ok (.aload_n 1, 1) := by decide +kernel
theorem d_Re_readData_139 : decode prog_5_method_5_code 139 = .ok (.aload_n 0, 1) := by decide +kernel
theorem d_Re_readData_140 : decode prog_5_method_5_code 140 = .ok (.aload_n 1, 1) := by decide +kernel
theorem d_Re_readData_141 : decode prog_5_method_5_code 141 = .ok (.invokevirtual 134, 3) := by decide +kernel
theorem d_Re_readData_144 : decode prog_5_method_5_code 144 = .ok (.invokevirtual 138, 3) := by decide +kernel
theorem d_Re_readData_147 : decode prog_5_method_5_code 147 = .ok (.istore_n 2, 1) := by decide +kernel
theorem d_Re_readData_148 : decode prog_5_method_5_code 148 = .ok (.iload_n 2, 1) := by decide +kernel
theorem d_Re_readData_149 : decode prog_5_method_5_code 149 = .ok (.ifCond .eq 56, 3) := by decide +kernel
theorem d_Re_readData_152 : decode prog_5_method_5_code 152 = .ok (.aload_n 0, 1) := by decide +kernel
theorem d_Re_readData_153 : decode prog_5_method_5_code 153 = .ok (.aload_n 1, 1) := by decide +kernel
theorem d_Re_readData_154 : decode prog_5_method_5_code 154 = .ok (.invokevirtual 142, 3) := by decide +kernel
theorem d_Re_readData_157 : decode prog_5_method_5_code 157 = .ok (.goto 48, 3) := by decide +kernel
theorem d_Re_readData_160 : decode prog_5_method_5_code 160 = .ok (.aload_n 0, 1) := by decide +kernel
theorem d_Re_readData_161 : decode prog_5_method_5_code 161 = .ok (.aload_n 1, 1) := by decide +kernel
theorem d_Re_readData_162 : decode prog_5_method_5_code 162 = .ok (.invokevirtual 146, 3) := by decide +kernel
theorem d_Re_readData_165 : decode prog_5_method_5_code 165 = .ok (.istore_n 2, 1) := by decide +kernel
theorem d_Re_readData_166 : decode prog_5_method_5_code 166 = .ok (.goto 39, 3) := by decide +kernel
theorem d_Re_readData_169 : decode prog_5_method_5_code 169 = .ok (.aload_n 1, 1) := by decide +kernel
theorem d_Re_readData_170 : decode prog_5_method_5_code 170 = .ok (.aload_n 0, 1) := by decide +kernel
theorem d_Re_readData_171 : decode prog_5_method_5_code 171 = .ok (.getfield 57, 3) := by decide +kernel
theorem d_Re_readData_174 : decode prog_5_method_5_code 174 = .ok (.aload_n 0, 1) := by decide +kernel
theorem d_Re_readData_175 : decode prog_5_method_5_code 175 = .ok (.getfield 32, 3) := by decide +kernel
theorem d_Re_readData_178 : decode prog_5_method_5_code 178 = .ok (.isub, 1) := by decide +kernel
theorem d_Re_readData_179 : decode prog_5_method_5_code 179 = .ok (.i2l, 1) := by decide +kernel
theorem d_Re_readData_180 : decode prog_5_method_5_code 180 = .ok (.putfield 126, 3) := by decide +kernel
theorem d_Re_readData_183 : decode prog_5_method_5_code 183 = .ok (.aload_n 0, 1) := by decide +kernel
theorem d_Re_readData_184 : decode prog_5_method_5_code 184 = .ok (.aload_n 1, 1) := by decide +kernel
theorem d_Re_readData_185 : decode prog_5_method_5_code 185 = .ok (.invokevirtual 142, 3) := by decide +kernel
theorem d_Re_readData_188 : decode prog_5_method_5_code 188 = .ok (.goto 17, 3) := by decide +kernel
theorem d_Re_readData_191 : decode prog_5_method_5_code 191 = .ok (.aload_n 1, 1) := by decide +kernel
theorem d_Re_readData_192 : decode prog_5_method_5_code 192 = .ok (.aload_n 0, 1) := by decide +kernel
theorem d_Re_readData_193 : decode prog_5_method_5_code 193 = .ok (.getfield 57, 3) := by decide +kernel
theorem d_Re_readData_196 : decode prog_5_method_5_code 196 = .ok (.aload_n 0, 1) := by decide +kernel
theorem d_Re_readData_197 : decode prog_5_method_5_code 197 = .ok (.getfield 32, 3) := by decide +kernel
theorem d_Re_readData_200 : decode prog_5_method_5_code 200 = .ok (.isub, 1) := by decide +kernel
theorem d_Re_readData_201 : decode prog_5_method_5_code 201 = .ok (.i2l, 1) := by decide +kernel
theorem d_Re_readData_202 : decode prog_5_method_5_code 202 = .ok (.putfield 126, 3) := by decide +kernel
theorem d_Re_readData_205 : decode prog_5_method_5_code 205 = .ok (.aload_n 0, 1) := by decide +kernel
theorem d_Re_readData_206 : decode prog_5_method_5_code 206 = .ok (.aload_n 0, 1) := by decide +kernel
theorem d_Re_readData_207 : decode prog_5_method_5_code 207 = .ok (.getfield 57, 3) := by decide +kernel
theorem d_Re_readData_210 : decode prog_5_method_5_code 210 = .ok (.putfield 32, 3) := by decide +kernel
theorem d_Re_readData_213 : decode prog_5_method_5_code 213 = .ok (.iload_n 2, 1) := by decide +kernel
theorem d_Re_readData_214 : decode prog_5_method_5_code 214 = .ok (.ifCond .eq 7, 3) := by decide +kernel
theorem d_Re_readData_217 : decode prog_5_method_5_code 217 = .ok (.iconst 0, 1) := by decide +kernel
theorem d_Re_readData_218 : decode prog_5_method_5_code 218 = .ok (.goto 5, 3) := by decide +kernel
theorem d_Re_readData_221 : decode prog_5_method_5_code 221 = .ok (.bipush (-7), 2) := by decide +kernel
theorem d_Re_readData_223 : decode prog_5_method_5_code 223 = .ok (.ireturn, 1) := by decide +kernel
theorem d_Re_readText_0 : decode prog_5_method_6_code 0 = .ok (.iconst 0, 1) := by decide +kernel
theorem d_Re_readText_1 : decode prog_5_method_6_code 1 = .ok (.istore_n 2, 1) := by decide +kernel
theorem d_Re_readText_2 : decode prog_5_method_6_code 2 = .ok (.aload_n 0, 1) := by decide +kernel
theorem d_Re_readText_3 : decode prog_5_method_6_code 3 = .ok (.getfield 32, 3) := by decide +kernel
theorem d_Re_readText_6 : decode prog_5_method_6_code 6 = .ok (.istore_n 3, 1) := by decide +kernel
theorem d_Re_readText_7 : decode prog_5_method_6_code 7 = .ok (.iload_n 3, 1) := by decide +kernel
theorem d_Re_readText_8 : decode prog_5_method_6_code 8 = .ok (.aload_n 0, 1) := by decide +kernel
theorem d_Re_readText_9 : decode prog_5_method_6_code 9 = .ok (.getfield 57, 3) := by decide +kernel
theorem d_Re_readText_12 : decode prog_5_method_6_code 12 = .ok (.if_icmp .ge 52, 3) := by decide +kernel
theorem d_Re_readText_15 : decode prog_5_method_6_code 15 = .ok (.aload_n 0, 1) := by decide +kernel
theorem d_Re_readText_16 : decode prog_5_method_6_code 16 = .ok (.getfield 15, 3) := by decide +kernel
theorem d_Re_readText_19 : decode prog_5_method_6_code 19 = .ok (.iload_n 3, 1) := by decide +kernel
theorem d_Re_readText_20 : decode prog_5_method_6_code 20 = .ok (.invokevirtual 58, 3) := by decide +kernel
theorem d_Re_readText_23 : decode prog_5_method_6_code 23 = .ok (.istore 4, 2) := by decide +kernel
theorem d_Re_readText_25 : decode prog_5_method_6_code 25 = .ok (.iload 4, 2) := by decide +kernel
theorem d_Re_readText_27 : decode prog_5_method_6_code 27 = .ok (.ifCond .ne 8, 3) := by decide +kernel
theorem d_Re_readText_30 : decode prog_5_method_6_code 30 = .ok (.iconst 1, 1) := by decide +kernel
theorem d_Re_readText_31 : decode prog_5_method_6_code 31 = .ok (.istore_n 2, 1) := by decide +kernel
theorem d_Re_readText_32 : decode prog_5_method_6_code 32 = .ok (.goto 26, 3) := by decide +kernel
theorem d_Re_readText_35 : decode prog_5_method_6_code 35 = .ok (.iload_n 2, 1) := by decide +kernel
theorem d_Re_readText_36 : decode prog_5_method_6_code 36 = .ok (.ifCond .ne 20, 3) := by decide +kernel
theorem d_Re_readText_39 : decode prog_5_method_6_code 39 = .ok (.iload 4, 2) := by decide +kernel
theorem d_Re_readText_41 : decode prog_5_method_6_code 41 = .ok (.invokestatic 149, 3) := by decide +kernel
theorem d_Re_readText_44 : decode prog_5_method_6_code 44 = .ok (.ifCond .eq 12, 3) := by decide +kernel
theorem d_Re_readText_47 : decode prog_5_method_6_code 47 = .ok (.aload_n 1, 1) := by decide +kernel
theorem d_Re_readText_48 : decode prog_5_method_6_code 48 = .ok (.iload 4, 2) := by decide +kernel
theorem d_Re_readText_50 : decode prog_5_method_6_code 50 = .ok (.invokevirtual 152, 3) := by decide +kernel
theorem d_Re_readText_53 : decode prog_5_method_6_code 53 = .ok (.ifCond .ne 5, 3) := by decide +kernel
theorem d_Re_readText_56 : decode prog_5_method_6_code 56 = .ok (.iconst 0, 1) := by decide +kernel
theorem d_Re_readText_57 : decode prog_5_method_6_code 57 = .ok (.ireturn, 1) := by decide +kernel
theorem d_Re_readText_58 : decode prog_5_method_6_code 58 = .ok (.iinc 3 1, 3) := by decide +kernel
theorem d_Re_readText_61 : decode prog_5_method_6_code 61 = .ok (.goto (-54), 3) := by decide +kernel
theorem d_Re_readText_64 : decode prog_5_method_6_code 64 = .ok (.iconst 1, 1) := by decide +kernel
theorem d_Re_readText_65 : decode prog_5_method_6_code 65 = .ok (.ireturn, 1) := by decide +kernel
theorem d_Re_readCheck_0 : decode prog_5_method_7_code 0 = .ok (.aload_n 0, 1) := by decide +kernel
theorem d_Re_readCheck_1 : decode prog_5_method_7_code 1 = .ok (.getfield 57, 3) := by decide +kernel
theorem d_Re_readCheck_4 : decode prog_5_method_7_code 4 = .ok (.aload_n 0, 1) := by decide +kernel
theorem d_Re_readCheck_5 : decode prog_5_method_7_code 5 = .ok (.getfield 32, 3) := by decide +kernel
theorem d_Re_readCheck_8 : decode prog_5_method_7_code 8 = .ok (.isub, 1) := by decide +kernel
theorem d_Re_readCheck_9 : decode prog_5_method_7_code 9 = .ok (.iconst 4, 1) := by decide +kernel
theorem d_Re_readCheck_10 : decode prog_5_method_7_code 10 = .ok (.if_icmp .ne 10, 3) := by decide +kernel
theorem d_Re_readCheck_13 : decode prog_5_method_7_code 13 = .ok (.aload_n 1, 1) := by decide +kernel
theorem d_Re_readCheck_14 : decode prog_5_method_7_code 14 = .ok (.getfield 56, 3) := by decide +kernel
theorem d_Re_readCheck_17 : decode prog_5_method_7_code 17 = .ok (.ifnonnull 5, 3) := by decide +kernel
theorem d_Re_readCheck_20 : decode prog_5_method_7_code 20 = .ok (.iconst 0, 1) := by decide +kernel
theorem d_Re_readCheck_21 : decode prog_5_method_7_code 21 = .ok (.ireturn, 1) := by decide +kernel
theorem d_Re_readCheck_22 : decode prog_5_method_7_code 22 = .ok (.aload_n 0, 1) := by decide +kernel
theorem d_Re_readCheck_23 : decode prog_5_method_7_code 23 = .ok (.getfield 15, 3) := by decide +kernel
theorem d_Re_readCheck_26 : decode prog_5_method_7_code 26 = .ok (.aload_n 0, 1) := by decide +kernel
theorem d_Re_readCheck_27 : decode prog_5_method_7_code 27 = .ok (.getfield 57, 3) := by decide +kernel
theorem d_Re_readCheck_30 : decode prog_5_method_7_code 30 = .ok (.aload_n 1, 1) := by decide +kernel
theorem d_Re_readCheck_31 : decode prog_5_method_7_code 31 = .ok (.getfield 56, 3) := by decide +kernel
theorem d_Re_readCheck_34 : decode prog_5_method_7_code 34 = .ok (.getfield 51, 3) := by decide +kernel
theorem d_Re_readCheck_37 : decode prog_5_method_7_code 37 = .ok (.invokevirtual 155, 3) := by decide +kernel
theorem d_Re_readCheck_40 : decode prog_5_method_7_code 40 = .ok (.istore_n 2, 1) := by decide +kernel
theorem d_Re_readCheck_41 : decode prog_5_method_7_code 41 = .ok (.iconst 0, 1) := by decide +kernel
theorem d_Re_readCheck_42 : decode prog_5_method_7_code 42 = .ok (.istore_n 3, 1) := by decide +kernel
theorem d_Re_readCheck_43 : decode prog_5_method_7_code 43 = .ok (.iload_n 3, 1) := by decide +kernel

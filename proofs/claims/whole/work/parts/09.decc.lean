theorem d_Re_readCheck_44 : decode prog_5_method_7_code 44 = .ok (.iconst 4, 1) := by decide +kernel
theorem d_Re_readCheck_45 : decode prog_5_method_7_code 45 = .ok (.if_icmp .ge 37, 3) := by decide +kernel
theorem d_Re_readCheck_48 : decode prog_5_method_7_code 48 = .ok (.aload_n 0, 1) := by decide +kernel
theorem d_Re_readCheck_49 : decode prog_5_method_7_code 49 = .ok (.getfield 15, 3) := by decide +kernel
theorem d_Re_readCheck_52 : decode prog_5_method_7_code 52 = .ok (.aload_n 0, 1) := by decide +kernel
theorem d_Re_readCheck_53 : decode prog_5_method_7_code 53 = .ok (.getfield 32, 3) := by decide +kernel
theorem d_Re_readCheck_56 : decode prog_5_method_7_code 56 = .ok (.iload_n 3, 1) := by decide +kernel
theorem d_Re_readCheck_57 : decode prog_5_method_7_code 57 = .ok (.iadd, 1) := by decide +kernel
theorem d_Re_readCheck_58 : decode prog_5_method_7_code 58 = .ok (.invokevirtual 58, 3) := by decide +kernel
theorem d_Re_readCheck_61 : decode prog_5_method_7_code 61 = .ok (.iload_n 2, 1) := by decide +kernel
theorem d_Re_readCheck_62 : decode prog_5_method_7_code 62 = .ok (.bipush 8, 2) := by decide +kernel
theorem d_Re_readCheck_64 : decode prog_5_method_7_code 64 = .ok (.iload_n 3, 1) := by decide +kernel
theorem d_Re_readCheck_65 : decode prog_5_method_7_code 65 = .ok (.imul, 1) := by decide +kernel
theorem d_Re_readCheck_66 : decode prog_5_method_7_code 66 = .ok (.iushr, 1) := by decide +kernel
theorem d_Re_readCheck_67 : decode prog_5_method_7_code 67 = .ok (.sipush 255, 3) := by decide +kernel
theorem d_Re_readCheck_70 : decode prog_5_method_7_code 70 = .ok (.iand, 1) := by decide +kernel
theorem d_Re_readCheck_71 : decode prog_5_method_7_code 71 = .ok (.if_icmp .eq 5, 3) := by decide +kernel
theorem d_Re_readCheck_74 : decode prog_5_method_7_code 74 = .ok (.iconst 0, 1) := by decide +kernel
theorem d_Re_readCheck_75 : decode prog_5_method_7_code 75 = .ok (.ireturn, 1) := by decide +kernel
theorem d_Re_readCheck_76 : decode prog_5_method_7_code 76 = .ok (.iinc 3 1, 3) := by decide +kernel
theorem d_Re_readCheck_79 : decode prog_5_method_7_code 79 = .ok (.goto (-36), 3) := by decide +kernel
theorem d_Re_readCheck_82 : decode prog_5_method_7_code 82 = .ok (.iconst 1, 1) := by decide +kernel
theorem d_Re_readCheck_83 : decode prog_5_method_7_code 83 = .ok (.ireturn, 1) := by decide +kernel
theorem d_Re_readBlockHead_0 : decode prog_5_method_8_code 0 = .ok (.aload_n 0, 1) := by decide +kernel
theorem d_Re_readBlockHead_1 : decode prog_5_method_8_code 1 = .ok (.invokevirtual 97, 3) := by decide +kernel
theorem d_Re_readBlockHead_4 : decode prog_5_method_8_code 4 = .ok (.lstore_n 2, 1) := by decide +kernel
theorem d_Re_readBlockHead_5 : decode prog_5_method_8_code 5 = .ok (.lload_n 2, 1) := by decide +kernel
theorem d_Re_readBlockHead_6 : decode prog_5_method_8_code 6 = .ok (.lconst 1, 1) := by decide +kernel
theorem d_Re_readBlockHead_7 : decode prog_5_method_8_code 7 = .ok (.lcmp, 1) := by decide +kernel
theorem d_Re_readBlockHead_8 : decode prog_5_method_8_code 8 = .ok (.ifCond .lt 24, 3) := by decide +kernel
theorem d_Re_readBlockHead_11 : decode prog_5_method_8_code 11 = .ok (.lload_n 2, 1) := by decide +kernel
theorem d_Re_readBlockHead_12 : decode prog_5_method_8_code 12 = .ok (.ldc2_w 158, 3) := by decide +kernel
theorem d_Re_readBlockHead_15 : decode prog_5_method_8_code 15 = .ok (.lcmp, 1) := by decide +kernel
theorem d_Re_readBlockHead_16 : decode prog_5_method_8_code 16 = .ok (.ifCond .gt 16, 3) := by decide +kernel
theorem d_Re_readBlockHead_19 : decode prog_5_method_8_code 19 = .ok (.aload_n 0, 1) := by decide +kernel
theorem d_Re_readBlockHead_20 : decode prog_5_method_8_code 20 = .ok (.getfield 57, 3) := by decide +kernel
theorem d_Re_readBlockHead_23 : decode prog_5_method_8_code 23 = .ok (.aload_n 0, 1) := by decide +kernel
theorem d_Re_readBlockHead_24 : decode prog_5_method_8_code 24 = .ok (.getfield 32, 3) := by decide +kernel
theorem d_Re_readBlockHead_27 : decode prog_5_method_8_code 27 = .ok (.isub, 1) := by decide +kernel
theorem d_Re_readBlockHead_28 : decode prog_5_method_8_code 28 = .ok (.iconst 3, 1) := by decide +kernel
theorem d_Re_readBlockHead_29 : decode prog_5_method_8_code 29 = .ok (.if_icmp .ge 5, 3) := by decide +kernel
theorem d_Re_readBlockHead_32 : decode prog_5_method_8_code 32 = .ok (.iconst 0, 1) := by decide +kernel
theorem d_Re_readBlockHead_33 : decode prog_5_method_8_code 33 = .ok (.ireturn, 1) := by decide +kernel
theorem d_Re_readBlockHead_34 : decode prog_5_method_8_code 34 = .ok (.aload_n 0, 1) := by decide +kernel
theorem d_Re_readBlockHead_35 : decode prog_5_method_8_code 35 = .ok (.iconst 2, 1) := by decide +kernel
theorem d_Re_readBlockHead_36 : decode prog_5_method_8_code 36 = .ok (.invokevirtual 65, 3) := by decide +kernel
theorem d_Re_readBlockHead_39 : decode prog_5_method_8_code 39 = .ok (.l2i, 1) := by decide +kernel
theorem d_Re_readBlockHead_40 : decode prog_5_method_8_code 40 = .ok (.i2s, 1) := by decide +kernel
theorem d_Re_readBlockHead_41 : decode prog_5_method_8_code 41 = .ok (.istore 4, 2) := by decide +kernel
theorem d_Re_readBlockHead_43 : decode prog_5_method_8_code 43 = .ok (.aload_n 0, 1) := by decide +kernel
theorem d_Re_readBlockHead_44 : decode prog_5_method_8_code 44 = .ok (.invokevirtual 160, 3) := by decide +kernel
theorem d_Re_readBlockHead_47 : decode prog_5_method_8_code 47 = .ok (.istore 5, 2) := by decide +kernel
theorem d_Re_readBlockHead_49 : decode prog_5_method_8_code 49 = .ok (.iload 5, 2) := by decide +kernel
theorem d_Re_readBlockHead_51 : decode prog_5_method_8_code 51 = .ok (.iconst 1, 1) := by decide +kernel
theorem d_Re_readBlockHead_52 : decode prog_5_method_8_code 52 = .ok (.ishr, 1) := by decide +kernel
theorem d_Re_readBlockHead_53 : decode prog_5_method_8_code 53 = .ok (.iconst 3, 1) := by decide +kernel
theorem d_Re_readBlockHead_54 : decode prog_5_method_8_code 54 = .ok (.iand, 1) := by decide +kernel
theorem d_Re_readBlockHead_55 : decode prog_5_method_8_code 55 = .ok (.istore 6, 2) := by decide +kernel
theorem d_Re_readBlockHead_57 : decode prog_5_method_8_code 57 = .ok (.iload 5, 2) := by decide +kernel
theorem d_Re_readBlockHead_59 : decode prog_5_method_8_code 59 = .ok (.bipush 127, 2) := by decide +kernel
theorem d_Re_readBlockHead_61 : decode prog_5_method_8_code 61 = .ok (.iand, 1) := by decide +kernel
theorem d_Re_readBlockHead_62 : decode prog_5_method_8_code 62 = .ok (.iconst 2, 1) := by decide +kernel
theorem d_Re_readBlockHead_63 : decode prog_5_method_8_code 63 = .ok (.iload 6, 2) := by decide +kernel
theorem d_Re_readBlockHead_65 : decode prog_5_method_8_code 65 = .ok (.imul, 1) := by decide +kernel
theorem d_Re_readBlockHead_66 : decode prog_5_method_8_code 66 = .ok (.if_icmp .eq 5, 3) := by decide +kernel
theorem d_Re_readBlockHead_69 : decode prog_5_method_8_code 69 = .ok (.iconst 0, 1) := by decide +kernel
theorem d_Re_readBlockHead_70 : decode prog_5_method_8_code 70 = .ok (.ireturn, 1) := by decide +kernel
theorem d_Re_readBlockHead_71 : decode prog_5_method_8_code 71 = .ok (.aload_n 1, 1) := by decide +kernel
theorem d_Re_readBlockHead_72 : decode prog_5_method_8_code 72 = .ok (.lload_n 2, 1) := by decide +kernel
theorem d_Re_readBlockHead_73 : decode prog_5_method_8_code 73 = .ok (.l2i, 1) := by decide +kernel
theorem d_Re_readBlockHead_74 : decode prog_5_method_8_code 74 = .ok (.iload 4, 2) := by decide +kernel
theorem d_Re_readBlockHead_76 : decode prog_5_method_8_code 76 = .ok (.iload 5, 2) := by decide +kernel
theorem d_Re_readBlockHead_78 : decode prog_5_method_8_code 78 = .ok (.sipush 128, 3) := by decide +kernel
theorem d_Re_readBlockHead_81 : decode prog_5_method_8_code 81 = .ok (.if_icmp .lt 7, 3) := by decide +kernel
theorem d_Re_readBlockHead_84 : decode prog_5_method_8_code 84 = .ok (.iconst 1, 1) := by decide +kernel
theorem d_Re_readBlockHead_85 : decode prog_5_method_8_code 85 = .ok (.goto 4, 3) := by decide +kernel
theorem d_Re_readBlockHead_88 : decode prog_5_method_8_code 88 = .ok (.iconst 0, 1) := by decide +kernel
theorem d_Re_readBlockHead_89 : decode prog_5_method_8_code 89 = .ok (.iload 6, 2) := by decide +kernel
theorem d_Re_readBlockHead_91 : decode prog_5_method_8_code 91 = .ok (.invokevirtual 163, 3) := by decide +kernel
theorem d_Re_readBlockHead_94 : decode prog_5_method_8_code 94 = .ok (.iload 6, 2) := by decide +kernel
theorem d_Re_readBlockHead_96 : decode prog_5_method_8_code 96 = .ok (.ifCond .ne 7, 3) := by decide +kernel
theorem d_Re_readBlockHead_99 : decode prog_5_method_8_code 99 = .ok (.iconst 1, 1) := by decide +kernel
theorem d_Re_readBlockHead_100 : decode prog_5_method_8_code 100 = .ok (.goto 9, 3) := by decide +kernel
theorem d_Re_readBlockHead_103 : decode prog_5_method_8_code 103 = .ok (.aload_n 0, 1) := by decide +kernel
theorem d_Re_readBlockHead_104 : decode prog_5_method_8_code 104 = .ok (.invokevirtual 160, 3) := by decide +kernel
theorem d_Re_readBlockHead_107 : decode prog_5_method_8_code 107 = .ok (.iconst 1, 1) := by decide +kernel
theorem d_Re_readBlockHead_108 : decode prog_5_method_8_code 108 = .ok (.iadd, 1) := by decide +kernel
theorem d_Re_readBlockHead_109 : decode prog_5_method_8_code 109 = .ok (.ireturn, 1) := by decide +kernel
theorem d_Re_shareEvenly_0 : decode prog_5_method_9_code 0 = .ok (.iload_n 2, 1) := by decide +kernel
theorem d_Re_shareEvenly_1 : decode prog_5_method_9_code 1 = .ok (.iconst 1, 1) := by decide +kernel
theorem d_Re_shareEvenly_2 : decode prog_5_method_9_code 2 = .ok (.if_icmp .lt 17, 3) := by decide +kernel
theorem d_Re_shareEvenly_5 : decode prog_5_method_9_code 5 = .ok (.aload_n 0, 1) := by decide +kernel
theorem d_Re_shareEvenly_6 : decode prog_5_method_9_code 6 = .ok (.getfield 57, 3) := by decide +kernel
theorem d_Re_shareEvenly_9 : decode prog_5_method_9_code 9 = .ok (.aload_n 0, 1) := by decide +kernel
theorem d_Re_shareEvenly_10 : decode prog_5_method_9_code 10 = .ok (.getfield 32, 3) := by decide +kernel
theorem d_Re_shareEvenly_13 : decode prog_5_method_9_code 13 = .ok (.isub, 1) := by decide +kernel
theorem d_Re_shareEvenly_14 : decode prog_5_method_9_code 14 = .ok (.iload_n 2, 1) := by decide +kernel
theorem d_Re_shareEvenly_15 : decode prog_5_method_9_code 15 = .ok (.irem, 1) := by decide +kernel
theorem d_Re_shareEvenly_16 : decode prog_5_method_9_code 16 = .ok (.ifCond .eq 5, 3) := by decide +kernel
theorem d_Re_shareEvenly_19 : decode prog_5_method_9_code 19 = .ok (.iconst 0, 1) := by decide +kernel
theorem d_Re_shareEvenly_20 : decode prog_5_method_9_code 20 = .ok (.ireturn, 1) := by decide +kernel
theorem d_Re_shareEvenly_21 : decode prog_5_method_9_code 21 = .ok (.iconst 0, 1) := by decide +kernel
theorem d_Re_shareEvenly_22 : decode prog_5_method_9_code 22 = .ok (.istore_n 3, 1) := by decide +kernel
theorem d_Re_shareEvenly_23 : decode prog_5_method_9_code 23 = .ok (.iload_n 3, 1) := by decide +kernel
theorem d_Re_shareEvenly_24 : decode prog_5_method_9_code 24 = .ok (.iload_n 2, 1) := by decide +kernel
theorem d_Re_shareEvenly_25 : decode prog_5_method_9_code 25 = .ok (.if_icmp .ge 25, 3) := by decide +kernel
theorem d_Re_shareEvenly_28 : decode prog_5_method_9_code 28 = .ok (.aload_n 1, 1) := by decide +kernel
theorem d_Re_shareEvenly_29 : decode prog_5_method_9_code 29 = .ok (.aload_n 0, 1) := by decide +kernel
theorem d_Re_shareEvenly_30 : decode prog_5_method_9_code 30 = .ok (.getfield 57, 3) := by decide +kernel
theorem d_Re_shareEvenly_33 : decode prog_5_method_9_code 33 = .ok (.aload_n 0, 1) := by decide +kernel
theorem d_Re_shareEvenly_34 : decode prog_5_method_9_code 34 = .ok (.getfield 32, 3) := by decide +kernel
theorem d_Re_shareEvenly_37 : decode prog_5_method_9_code 37 = .ok (.isub, 1) := by decide +kernel
theorem d_Re_shareEvenly_38 : decode prog_5_method_9_code 38 = .ok (.iload_n 2, 1) := by decide +kernel
theorem d_Re_shareEvenly_39 : decode prog_5_method_9_code 39 = .ok (.idiv, 1) := by decide +kernel
theorem d_Re_shareEvenly_40 : decode prog_5_method_9_code 40 = .ok (.invokevirtual 152, 3) := by decide +kernel
theorem d_Re_shareEvenly_43 : decode prog_5_method_9_code 43 = .ok (.pop, 1) := by decide +kernel
theorem d_Re_shareEvenly_44 : decode prog_5_method_9_code 44 = .ok (.iinc 3 1, 3) := by decide +kernel
theorem d_Re_shareEvenly_47 : decode prog_5_method_9_code 47 = .ok (.goto (-24), 3) := by decide +kernel
theorem d_Re_shareEvenly_50 : decode prog_5_method_9_code 50 = .ok (.iconst 1, 1) := by decide +kernel
theorem d_Re_shareEvenly_51 : decode prog_5_method_9_code 51 = .ok (.ireturn, 1) := by decide +kernel
theorem d_Re_readSizes_0 : decode prog_5_method_10_code 0 = .ok (.iload_n 2, 1) := by decide +kernel
theorem d_Re_readSizes_1 : decode prog_5_method_10_code 1 = .ok (.iconst 1, 1) := by decide +kernel
theorem d_Re_readSizes_2 : decode prog_5_method_10_code 2 = .ok (.if_icmp .lt 9, 3) := by decide +kernel
theorem d_Re_readSizes_5 : decode prog_5_method_10_code 5 = .ok (.iload_n 2, 1) := by decide +kernel
theorem d_Re_readSizes_6 : decode prog_5_method_10_code 6 = .ok (.bipush 8, 2) := by decide +kernel
theorem d_Re_readSizes_8 : decode prog_5_method_10_code 8 = .ok (.if_icmp .le 5, 3) := by decide +kernel
theorem d_Re_readSizes_11 : decode prog_5_method_10_code 11 = .ok (.iconst 0, 1) := by decide +kernel
theorem d_Re_readSizes_12 : decode prog_5_method_10_code 12 = .ok (.ireturn, 1) := by decide +kernel
theorem d_Re_readSizes_13 : decode prog_5_method_10_code 13 = .ok (.aload_n 1, 1) := by decide +kernel
theorem d_Re_readSizes_14 : decode prog_5_method_10_code 14 = .ok (.getfield 167, 3) := by decide +kernel
theorem d_Re_readSizes_17 : decode prog_5_method_10_code 17 = .ok (.iconst 2, 1) := by decide +kernel
theorem d_Re_readSizes_18 : decode prog_5_method_10_code 18 = .ok (.if_icmp .ne 10, 3) := by decide +kernel
theorem d_Re_readSizes_21 : decode prog_5_method_10_code 21 = .ok (.aload_n 0, 1) := by decide +kernel
theorem d_Re_readSizes_22 : decode prog_5_method_10_code 22 = .ok (.aload_n 1, 1) := by decide +kernel
theorem d_Re_readSizes_23 : decode prog_5_method_10_code 23 = .ok (.iload_n 2, 1) := by decide +kernel
theorem d_Re_readSizes_24 : decode prog_5_method_10_code 24 = .ok (.invokevirtual 170, 3) := by decide +kernel
theorem d_Re_readSizes_27 : decode prog_5_method_10_code 27 = .ok (.ireturn, 1) := by decide +kernel
theorem d_Re_readSizes_28 : decode prog_5_method_10_code 28 = .ok (.iconst 0, 1) := by decide +kernel
theorem d_Re_readSizes_29 : decode prog_5_method_10_code 29 = .ok (.istore_n 3, 1) := by decide +kernel
theorem d_Re_readSizes_30 : decode prog_5_method_10_code 30 = .ok (.lconst 0, 1) := by decide +kernel
theorem d_Re_readSizes_31 : decode prog_5_method_10_code 31 = .ok (.lstore 4, 2) := by decide +kernel
theorem d_Re_readSizes_33 : decode prog_5_method_10_code 33 = .ok (.iconst 0, 1) := by decide +kernel
theorem d_Re_readSizes_34 : decode prog_5_method_10_code 34 = .ok (.istore 6, 2) := by decide +kernel
theorem d_Re_readSizes_36 : decode prog_5_method_10_code 36 = .ok (.iload 6, 2) := by decide +kernel
theorem d_Re_readSizes_38 : decode prog_5_method_10_code 38 = .ok (.iload_n 2, 1) := by decide +kernel
theorem d_Re_readSizes_39 : decode prog_5_method_10_code 39 = .ok (.iconst 1, 1) := by decide +kernel
theorem d_Re_readSizes_40 : decode prog_5_method_10_code 40 = .ok (.isub, 1) := by decide +kernel
theorem d_Re_readSizes_41 : decode prog_5_method_10_code 41 = .ok (.if_icmp .ge 112, 3) := by decide +kernel
theorem d_Re_readSizes_44 : decode prog_5_method_10_code 44 = .ok (.aload_n 1, 1) := by decide +kernel
theorem d_Re_readSizes_45 : decode prog_5_method_10_code 45 = .ok (.getfield 167, 3) := by decide +kernel
theorem d_Re_readSizes_48 : decode prog_5_method_10_code 48 = .ok (.iconst 1, 1) := by decide +kernel
theorem d_Re_readSizes_49 : decode prog_5_method_10_code 49 = .ok (.if_icmp .ne 12, 3) := by decide +kernel
theorem d_Re_readSizes_52 : decode prog_5_method_10_code 52 = .ok (.aload_n 0, 1) := by decide +kernel
theorem d_Re_readSizes_53 : decode prog_5_method_10_code 53 = .ok (.invokevirtual 173, 3) := by decide +kernel
theorem d_Re_readSizes_56 : decode prog_5_method_10_code 56 = .ok (.lstore 4, 2) := by decide +kernel
theorem d_Re_readSizes_58 : decode prog_5_method_10_code 58 = .ok (.goto 50, 3) := by decide +kernel
theorem d_Re_readSizes_61 : decode prog_5_method_10_code 61 = .ok (.aload_n 0, 1) := by decide +kernel
theorem d_Re_readSizes_62 : decode prog_5_method_10_code 62 = .ok (.invokevirtual 97, 3) := by decide +kernel
theorem d_Re_readSizes_65 : decode prog_5_method_10_code 65 = .ok (.lstore 7, 2) := by decide +kernel
theorem d_Re_readSizes_67 : decode prog_5_method_10_code 67 = .ok (.lload 7, 2) := by decide +kernel
theorem d_Re_readSizes_69 : decode prog_5_method_10_code 69 = .ok (.lconst 0, 1) := by decide +kernel
theorem d_Re_readSizes_70 : decode prog_5_method_10_code 70 = .ok (.lcmp, 1) := by decide +kernel
theorem d_Re_readSizes_71 : decode prog_5_method_10_code 71 = .ok (.ifCond .lt 10, 3) := by decide +kernel
theorem d_Re_readSizes_74 : decode prog_5_method_10_code 74 = .ok (.aload_n 0, 1) := by decide +kernel
theorem d_Re_readSizes_75 : decode prog_5_method_10_code 75 = .ok (.getfield 101, 3) := by decide +kernel
theorem d_Re_readSizes_78 : decode prog_5_method_10_code 78 = .ok (.ifCond .eq 5, 3) := by decide +kernel
theorem d_Re_readSizes_81 : decode prog_5_method_10_code 81 = .ok (.iconst 0, 1) := by decide +kernel
theorem d_Re_readSizes_82 : decode prog_5_method_10_code 82 = .ok (.ireturn, 1) := by decide +kernel
theorem d_Re_readSizes_83 : decode prog_5_method_10_code 83 = .ok (.iload 6, 2) := by decide +kernel
theorem d_Re_readSizes_85 : decode prog_5_method_10_code 85 = .ok (.ifCond .ne 8, 3) := by decide +kernel
theorem d_Re_readSizes_88 : decode prog_5_method_10_code 88 = .ok (.lload 7, 2) := by decide +kernel
theorem d_Re_readSizes_90 : decode prog_5_method_10_code 90 = .ok (.goto 16, 3) := by decide +kernel
theorem d_Re_readSizes_93 : decode prog_5_method_10_code 93 = .ok (.lload 4, 2) := by decide +kernel
theorem d_Re_readSizes_95 : decode prog_5_method_10_code 95 = .ok (.lload 7, 2) := by decide +kernel
theorem d_Re_readSizes_97 : decode prog_5_method_10_code 97 = .ok (.ladd, 1) := by decide +kernel
theorem d_Re_readSizes_98 : decode prog_5_method_10_code 98 = .ok (.aload_n 0, 1) := by decide +kernel
theorem d_Re_readSizes_99 : decode prog_5_method_10_code 99 = .ok (.getfield 176, 3) := by decide +kernel
theorem d_Re_readSizes_102 : decode prog_5_method_10_code 102 = .ok (.invokestatic 179, 3) := by decide +kernel
theorem d_Re_readSizes_105 : decode prog_5_method_10_code 105 = .ok (.lsub, 1) := by decide +kernel
theorem d_Re_readSizes_106 : decode prog_5_method_10_code 106 = .ok (.lstore 4, 2) := by decide +kernel
theorem d_Re_readSizes_108 : decode prog_5_method_10_code 108 = .ok (.lload 4, 2) := by decide +kernel
theorem d_Re_readSizes_110 : decode prog_5_method_10_code 110 = .ok (.lconst 0, 1) := by decide +kernel
theorem d_Re_readSizes_111 : decode prog_5_method_10_code 111 = .ok (.lcmp, 1) := by decide +kernel
theorem d_Re_readSizes_112 : decode prog_5_method_10_code 112 = .ok (.ifCond .lt 19, 3) := by decide +kernel
theorem d_Re_readSizes_115 : decode prog_5_method_10_code 115 = .ok (.lload 4, 2) := by decide +kernel
theorem d_Re_readSizes_117 : decode prog_5_method_10_code 117 = .ok (.aload_n 0, 1) := by decide +kernel
theorem d_Re_readSizes_118 : decode prog_5_method_10_code 118 = .ok (.getfield 57, 3) := by decide +kernel
theorem d_Re_readSizes_121 : decode prog_5_method_10_code 121 = .ok (.aload_n 0, 1) := by decide +kernel
theorem d_Re_readSizes_122 : decode prog_5_method_10_code 122 = .ok (.getfield 32, 3) := by decide +kernel
theorem d_Re_readSizes_125 : decode prog_5_method_10_code 125 = .ok (.isub, 1) := by decide +kernel
theorem d_Re_readSizes_126 : decode prog_5_method_10_code 126 = .ok (.i2l, 1) := by decide +kernel
theorem d_Re_readSizes_127 : decode prog_5_method_10_code 127 = .ok (.lcmp, 1) := by decide +kernel
theorem d_Re_readSizes_128 : decode prog_5_method_10_code 128 = .ok (.ifCond .le 5, 3) := by decide +kernel
theorem d_Re_readSizes_131 : decode prog_5_method_10_code 131 = .ok (.iconst 0, 1) := by decide +kernel
theorem d_Re_readSizes_132 : decode prog_5_method_10_code 132 = .ok (.ireturn, 1) := by decide +kernel
theorem d_Re_readSizes_133 : decode prog_5_method_10_code 133 = .ok (.iload_n 3, 1) := by decide +kernel
theorem d_Re_readSizes_134 : decode prog_5_method_10_code 134 = .ok (.lload 4, 2) := by decide +kernel
theorem d_Re_readSizes_136 : decode prog_5_method_10_code 136 = .ok (.l2i, 1) := by decide +kernel
theorem d_Re_readSizes_137 : decode prog_5_method_10_code 137 = .ok (.iadd, 1) := by decide +kernel
theorem d_Re_readSizes_138 : decode prog_5_method_10_code 138 = .ok (.istore_n 3, 1) := by decide +kernel
theorem d_Re_readSizes_139 : decode prog_5_method_10_code 139 = .ok (.aload_n 1, 1) := by decide +kernel
theorem d_Re_readSizes_140 : decode prog_5_method_10_code 140 = .ok (.lload 4, 2) := by decide +kernel
theorem d_Re_readSizes_142 : decode prog_5_method_10_code 142 = .ok (.l2i, 1) := by decide +kernel
theorem d_Re_readSizes_143 : decode prog_5_method_10_code 143 = .ok (.invokevirtual 152, 3) := by decide +kernel
theorem d_Re_readSizes_146 : decode prog_5_method_10_code 146 = .ok (.pop, 1) := by decide +kernel
theorem d_Re_readSizes_147 : decode prog_5_method_10_code 147 = .ok (.iinc 6 1, 3) := by decide +kernel
theorem d_Re_readSizes_150 : decode prog_5_method_10_code 150 = .ok (.goto (-114), 3) := by decide +kernel
theorem d_Re_readSizes_153 : decode prog_5_method_10_code 153 = .ok (.iload_n 3, 1) := by decide +kernel
theorem d_Re_readSizes_154 : decode prog_5_method_10_code 154 = .ok (.aload_n 0, 1) := by decide +kernel
theorem d_Re_readSizes_155 : decode prog_5_method_10_code 155 = .ok (.getfield 57, 3) := by decide +kernel
theorem d_Re_readSizes_158 : decode prog_5_method_10_code 158 = .ok (.aload_n 0, 1) := by decide +kernel
theorem d_Re_readSizes_159 : decode prog_5_method_10_code 159 = .ok (.getfield 32, 3) := by decide +kernel
theorem d_Re_readSizes_162 : decode prog_5_method_10_code 162 = .ok (.isub, 1) := by decide +kernel
theorem d_Re_readSizes_163 : decode prog_5_method_10_code 163 = .ok (.if_icmp .le 5, 3) := by decide +kernel
theorem d_Re_readSizes_166 : decode prog_5_method_10_code 166 = .ok (.iconst 0, 1) := by decide +kernel
theorem d_Re_readSizes_167 : decode prog_5_method_10_code 167 = .ok (.ireturn, 1) := by decide +kernel
theorem d_Re_readSizes_168 : decode prog_5_method_10_code 168 = .ok (.aload_n 1, 1) := by decide +kernel
theorem d_Re_readSizes_169 : decode prog_5_method_10_code 169 = .ok (.aload_n 0, 1) := by decide +kernel
theorem d_Re_readSizes_170 : decode prog_5_method_10_code 170 = .ok (.getfield 57, 3) := by decide +kernel
theorem d_Re_readSizes_173 : decode prog_5_method_10_code 173 = .ok (.aload_n 0, 1) := by decide +kernel
theorem d_Re_readSizes_174 : decode prog_5_method_10_code 174 = .ok (.getfield 32, 3) := by decide +kernel
theorem d_Re_readSizes_177 : decode prog_5_method_10_code 177 = .ok (.isub, 1) := by decide +kernel
theorem d_Re_readSizes_178 : decode prog_5_method_10_code 178 = .ok (.iload_n 3, 1) := by decide +kernel
theorem d_Re_readSizes_179 : decode prog_5_method_10_code 179 = .ok (.isub, 1) := by decide +kernel
theorem d_Re_readSizes_180 : decode prog_5_method_10_code 180 = .ok (.invokevirtual 152, 3) := by decide +kernel
theorem d_Re_readSizes_183 : decode prog_5_method_10_code 183 = .ok (.ireturn, 1) := by decide +kernel
theorem d_Re_nextSizeOfBytes_0 : decode prog_5_method_11_code 0 = .ok (.lconst 0, 1) := by decide +kernel
theorem d_Re_nextSizeOfBytes_1 : decode prog_5_method_11_code 1 = .ok (.lstore_n 1, 1) := by decide +kernel
theorem d_Re_nextSizeOfBytes_2 : decode prog_5_method_11_code 2 = .ok (.aload_n 0, 1) := by decide +kernel
theorem d_Re_nextSizeOfBytes_3 : decode prog_5_method_11_code 3 = .ok (.getfield 32, 3) := by decide +kernel
theorem d_Re_nextSizeOfBytes_6 : decode prog_5_method_11_code 6 = .ok (.istore_n 3, 1) := by decide +kernel
theorem d_Re_nextSizeOfBytes_7 : decode prog_5_method_11_code 7 = .ok (.iload_n 3, 1) := by decide +kernel
theorem d_Re_nextSizeOfBytes_8 : decode prog_5_method_11_code 8 = .ok (.aload_n 0, 1) := by decide +kernel
theorem d_Re_nextSizeOfBytes_9 : decode prog_5_method_11_code 9 = .ok (.getfield 57, 3) := by decide +kernel
theorem d_Re_nextSizeOfBytes_12 : decode prog_5_method_11_code 12 = .ok (.if_icmp .ge 31, 3) := by decide +kernel
theorem d_Re_nextSizeOfBytes_15 : decode prog_5_method_11_code 15 = .ok (.aload_n 0, 1) := by decide +kernel
theorem d_Re_nextSizeOfBytes_16 : decode prog_5_method_11_code 16 = .ok (.invokevirtual 160, 3) := by decide +kernel
theorem d_Re_nextSizeOfBytes_19 : decode prog_5_method_11_code 19 = .ok (.istore 4, 2) := by decide +kernel
theorem d_Re_nextSizeOfBytes_21 : decode prog_5_method_11_code 21 = .ok (.lload_n 1, 1) := by decide +kernel
theorem d_Re_nextSizeOfBytes_22 : decode prog_5_method_11_code 22 = .ok (.iload 4, 2) := by decide +kernel
theorem d_Re_nextSizeOfBytes_24 : decode prog_5_method_11_code 24 = .ok (.i2l, 1) := by decide +kernel
theorem d_Re_nextSizeOfBytes_25 : decode prog_5_method_11_code 25 = .ok (.ladd, 1) := by decide +kernel
theorem d_Re_nextSizeOfBytes_26 : decode prog_5_method_11_code 26 = .ok (.lstore_n 1, 1) := by decide +kernel
theorem d_Re_nextSizeOfBytes_27 : decode prog_5_method_11_code 27 = .ok (.iload 4, 2) := by decide +kernel
theorem d_Re_nextSizeOfBytes_29 : decode prog_5_method_11_code 29 = .ok (.sipush 255, 3) := by decide +kernel
theorem d_Re_nextSizeOfBytes_32 : decode prog_5_method_11_code 32 = .ok (.if_icmp .ge 5, 3) := by decide +kernel
theorem d_Re_nextSizeOfBytes_35 : decode prog_5_method_11_code 35 = .ok (.lload_n 1, 1) := by decide +kernel
theorem d_Re_nextSizeOfBytes_36 : decode prog_5_method_11_code 36 = .ok (.lreturn, 1) := by decide +kernel
theorem d_Re_nextSizeOfBytes_37 : decode prog_5_method_11_code 37 = .ok (.iinc 3 1, 3) := by decide +kernel
theorem d_Re_nextSizeOfBytes_40 : decode prog_5_method_11_code 40 = .ok (.goto (-33), 3) := by decide +kernel
theorem d_Re_nextSizeOfBytes_43 : decode prog_5_method_11_code 43 = .ok (.ldc2_w 182, 3) := by decide +kernel
theorem d_Re_nextSizeOfBytes_46 : decode prog_5_method_11_code 46 = .ok (.lreturn, 1) := by decide +kernel
theorem d_Re_storeRest_0 : decode prog_5_method_12_code 0 = .ok (.aload_n 0, 1) := by decide +kernel
theorem d_Re_storeRest_1 : decode prog_5_method_12_code 1 = .ok (.getfield 19, 3) := by decide +kernel
theorem d_Re_storeRest_4 : decode prog_5_method_12_code 4 = .ok (.aload_n 1, 1) := by decide +kernel
theorem d_Re_storeRest_5 : decode prog_5_method_12_code 5 = .ok (.invokevirtual 184, 3) := by decide +kernel
theorem d_Re_storeRest_8 : decode prog_5_method_12_code 8 = .ok (.aload_n 0, 1) := by decide +kernel
theorem d_Re_storeRest_9 : decode prog_5_method_12_code 9 = .ok (.getfield 32, 3) := by decide +kernel
theorem d_Re_storeRest_12 : decode prog_5_method_12_code 12 = .ok (.istore_n 2, 1) := by decide +kernel
theorem d_Re_storeRest_13 : decode prog_5_method_12_code 13 = .ok (.iload_n 2, 1) := by decide +kernel
theorem d_Re_storeRest_14 : decode prog_5_method_12_code 14 = .ok (.aload_n 0, 1) := by decide +kernel
theorem d_Re_storeRest_15 : decode prog_5_method_12_code 15 = .ok (.getfield 57, 3) := by decide +kernel
theorem d_Re_storeRest_18 : decode prog_5_method_12_code 18 = .ok (.if_icmp .ge 25, 3) := by decide +kernel
theorem d_Re_storeRest_21 : decode prog_5_method_12_code 21 = .ok (.aload_n 0, 1) := by decide +kernel
theorem d_Re_storeRest_22 : decode prog_5_method_12_code 22 = .ok (.getfield 19, 3) := by decide +kernel
theorem d_Re_storeRest_25 : decode prog_5_method_12_code 25 = .ok (.aload_n 1, 1) := by decide +kernel
theorem d_Re_storeRest_26 : decode prog_5_method_12_code 26 = .ok (.aload_n 0, 1) := by decide +kernel
theorem d_Re_storeRest_27 : decode prog_5_method_12_code 27 = .ok (.getfield 15, 3) := by decide +kernel
theorem d_Re_storeRest_30 : decode prog_5_method_12_code 30 = .ok (.iload_n 2, 1) := by decide +kernel
theorem d_Re_storeRest_31 : decode prog_5_method_12_code 31 = .ok (.invokevirtual 58, 3) := by decide +kernel
theorem d_Re_storeRest_34 : decode prog_5_method_12_code 34 = .ok (.invokevirtual 187, 3) := by decide +kernel
theorem d_Re_storeRest_37 : decode prog_5_method_12_code 37 = .ok (.iinc 2 1, 3) := by decide +kernel
theorem d_Re_storeRest_40 : decode prog_5_method_12_code 40 = .ok (.goto (-27), 3) := by decide +kernel
theorem d_Re_storeRest_43 : decode prog_5_method_12_code 43 = .ok (.return_, 1) := by decide +kernel
theorem d_Re_nextByte_0 : decode prog_5_method_13_code 0 = .ok (.aload_n 0, 1) := by decide +kernel
theorem d_Re_nextByte_1 : decode prog_5_method_13_code 1 = .ok (.getfield 32, 3) := by decide +kernel
theorem d_Re_nextByte_4 : decode prog_5_method_13_code 4 = .ok (.aload_n 0, 1) := by decide +kernel
theorem d_Re_nextByte_5 : decode prog_5_method_13_code 5 = .ok (.getfield 57, 3) := by decide +kernel
theorem d_Re_nextByte_8 : decode prog_5_method_13_code 8 = .ok (.if_icmp .lt 5, 3) := by decide +kernel
theorem d_Re_nextByte_11 : decode prog_5_method_13_code 11 = .ok (.iconst (-1), 1) := by decide +kernel
theorem d_Re_nextByte_12 : decode prog_5_method_13_code 12 = .ok (.ireturn, 1) := by decide +kernel
theorem d_Re_nextByte_13 : decode prog_5_method_13_code 13 = .ok (.aload_n 0, 1) := by decide +kernel
theorem d_Re_nextByte_14 : decode prog_5_method_13_code 14 = .ok (.getfield 15, 3) := by decide +kernel
theorem d_Re_nextByte_17 : decode prog_5_method_13_code 17 = .ok (.aload_n 0, 1) := by decide +kernel
theorem d_Re_nextByte_18 : decode prog_5_method_13_code 18 = .ok (.getfield 32, 3) := by decide +kernel
theorem d_Re_nextByte_21 : decode prog_5_method_13_code 21 = .ok (.invokevirtual 58, 3) := by decide +kernel
theorem d_Re_nextByte_24 : decode prog_5_method_13_code 24 = .ok (.istore_n 1, 1) := by decide +kernel
theorem d_Re_nextByte_25 : decode prog_5_method_13_code 25 = .ok (.aload_n 0, 1) := by decide +kernel
theorem d_Re_nextByte_26 : decode prog_5_method_13_code 26 = .ok (.dup, 1) := by decide +kernel
theorem d_Re_nextByte_27 : decode prog_5_method_13_code 27 = .ok (.getfield 32, 3) := by decide +kernel
theorem d_Re_nextByte_30 : decode prog_5_method_13_code 30 = .ok (.iconst 1, 1) := by decide +kernel
theorem d_Re_nextByte_31 : decode prog_5_method_13_code 31 = .ok (.iadd, 1) := by decide +kernel
theorem d_Re_nextByte_32 : decode prog_5_method_13_code 32 = .ok (.putfield 32, 3) := by decide +kernel
theorem d_Re_nextByte_35 : decode prog_5_method_13_code 35 = .ok (.iload_n 1, 1) := by decide +kernel
theorem d_Re_nextByte_36 : decode prog_5_method_13_code 36 = .ok (.ireturn, 1) := by decide +kernel
theorem d_Re_nextNumber_0 : decode prog_5_method_14_code 0 = .ok (.lconst 0, 1) := by decide +kernel
theorem d_Re_nextNumber_1 : decode prog_5_method_14_code 1 = .ok (.lstore_n 2, 1) := by decide +kernel
theorem d_Re_nextNumber_2 : decode prog_5_method_14_code 2 = .ok (.iconst 0, 1) := by decide +kernel
theorem d_Re_nextNumber_3 : decode prog_5_method_14_code 3 = .ok (.istore 4, 2) := by decide +kernel
theorem d_Re_nextNumber_5 : decode prog_5_method_14_code 5 = .ok (.iload 4, 2) := by decide +kernel
theorem d_Re_nextNumber_7 : decode prog_5_method_14_code 7 = .ok (.iload_n 1, 1) := by decide +kernel
theorem d_Re_nextNumber_8 : decode prog_5_method_14_code 8 = .ok (.if_icmp .ge 34, 3) := by decide +kernel
theorem d_Re_nextNumber_11 : decode prog_5_method_14_code 11 = .ok (.lload_n 2, 1) := by decide +kernel
theorem d_Re_nextNumber_12 : decode prog_5_method_14_code 12 = .ok (.bipush 8, 2) := by decide +kernel
theorem d_Re_nextNumber_14 : decode prog_5_method_14_code 14 = .ok (.lshl, 1) := by decide +kernel
theorem d_Re_nextNumber_15 : decode prog_5_method_14_code 15 = .ok (.aload_n 0, 1) := by decide +kernel
theorem d_Re_nextNumber_16 : decode prog_5_method_14_code 16 = .ok (.getfield 15, 3) := by decide +kernel
theorem d_Re_nextNumber_19 : decode prog_5_method_14_code 19 = .ok (.aload_n 0, 1) := by decide +kernel
theorem d_Re_nextNumber_20 : decode prog_5_method_14_code 20 = .ok (.getfield 32, 3) := by decide +kernel
theorem d_Re_nextNumber_23 : decode prog_5_method_14_code 23 = .ok (.iload 4, 2) := by decide +kernel
theorem d_Re_nextNumber_25 : decode prog_5_method_14_code 25 = .ok (.iadd, 1) := by decide +kernel
theorem d_Re_nextNumber_26 : decode prog_5_method_14_code 26 = .ok (.invokevirtual 58, 3) := by decide +kernel
theorem d_Re_nextNumber_29 : decode prog_5_method_14_code 29 = .ok (.sipush 255, 3) := by decide +kernel
theorem d_Re_nextNumber_32 : decode prog_5_method_14_code 32 = .ok (.iand, 1) := by decide +kernel
theorem d_Re_nextNumber_33 : decode prog_5_method_14_code 33 = .ok (.i2l, 1) := by decide +kernel
theorem d_Re_nextNumber_34 : decode prog_5_method_14_code 34 = .ok (.lor, 1) := by decide +kernel
theorem d_Re_nextNumber_35 : decode prog_5_method_14_code 35 = .ok (.lstore_n 2, 1) := by decide +kernel
theorem d_Re_nextNumber_36 : decode prog_5_method_14_code 36 = .ok (.iinc 4 1, 3) := by decide +kernel
theorem d_Re_nextNumber_39 : decode prog_5_method_14_code 39 = .ok (.goto (-34), 3) := by decide +kernel
theorem d_Re_nextNumber_42 : decode prog_5_method_14_code 42 = .ok (.aload_n 0, 1) := by decide +kernel
theorem d_Re_nextNumber_43 : decode prog_5_method_14_code 43 = .ok (.dup, 1) := by decide +kernel
theorem d_Re_nextNumber_44 : decode prog_5_method_14_code 44 = .ok (.getfield 32, 3) := by decide +kernel
theorem d_Re_nextNumber_47 : decode prog_5_method_14_code 47 = .ok (.iload_n 1, 1) := by decide +kernel
theorem d_Re_nextNumber_48 : decode prog_5_method_14_code 48 = .ok (.iadd, 1) := by decide +kernel
theorem d_Re_nextNumber_49 : decode prog_5_method_14_code 49 = .ok (.putfield 32, 3) := by decide +kernel
theorem d_Re_nextNumber_52 : decode prog_5_method_14_code 52 = .ok (.lload_n 2, 1) := by decide +kernel
theorem d_Re_nextNumber_53 : decode prog_5_method_14_code 53 = .ok (.lreturn, 1) := by decide +kernel
theorem d_Re_nextVint_0 : decode prog_5_method_15_code 0 = .ok (.aload_n 0, 1) := by decide +kernel
theorem d_Re_nextVint_1 : decode prog_5_method_15_code 1 = .ok (.getfield 32, 3) := by decide +kernel
theorem d_Re_nextVint_4 : decode prog_5_method_15_code 4 = .ok (.aload_n 0, 1) := by decide +kernel
theorem d_Re_nextVint_5 : decode prog_5_method_15_code 5 = .ok (.getfield 57, 3) := by decide +kernel
theorem d_Re_nextVint_8 : decode prog_5_method_15_code 8 = .ok (.if_icmp .lt 7, 3) := by decide +kernel
theorem d_Re_nextVint_11 : decode prog_5_method_15_code 11 = .ok (.ldc2_w 182, 3) := by decide +kernel
theorem d_Re_nextVint_14 : decode prog_5_method_15_code 14 = .ok (.lreturn, 1) := by decide +kernel
theorem d_Re_nextVint_15 : decode prog_5_method_15_code 15 = .ok (.aload_n 0, 1) := by decide +kernel
theorem d_Re_nextVint_16 : decode prog_5_method_15_code 16 = .ok (.aload_n 0, 1) := by decide +kernel
theorem d_Re_nextVint_17 : decode prog_5_method_15_code 17 = .ok (.getfield 15, 3) := by decide +kernel
theorem d_Re_nextVint_20 : decode prog_5_method_15_code 20 = .ok (.aload_n 0, 1) := by decide +kernel
theorem d_Re_nextVint_21 : decode prog_5_method_15_code 21 = .ok (.getfield 32, 3) := by decide +kernel
theorem d_Re_nextVint_24 : decode prog_5_method_15_code 24 = .ok (.invokevirtual 58, 3) := by decide +kernel
theorem d_Re_nextVint_27 : decode prog_5_method_15_code 27 = .ok (.invokestatic 62, 3) := by decide +kernel
theorem d_Re_nextVint_30 : decode prog_5_method_15_code 30 = .ok (.putfield 176, 3) := by decide +kernel
theorem d_Re_nextVint_33 : decode prog_5_method_15_code 33 = .ok (.aload_n 0, 1) := by decide +kernel
theorem d_Re_nextVint_34 : decode prog_5_method_15_code 34 = .ok (.getfield 176, 3) := by decide +kernel
theorem d_Re_nextVint_37 : decode prog_5_method_15_code 37 = .ok (.bipush 8, 2) := by decide +kernel
theorem d_Re_nextVint_39 : decode prog_5_method_15_code 39 = .ok (.if_icmp .gt 19, 3) := by decide +kernel
theorem d_Re_nextVint_42 : decode prog_5_method_15_code 42 = .ok (.aload_n 0, 1) := by decide +kernel
theorem d_Re_nextVint_43 : decode prog_5_method_15_code 43 = .ok (.getfield 176, 3) := by decide +kernel
theorem d_Re_nextVint_46 : decode prog_5_method_15_code 46 = .ok (.aload_n 0, 1) := by decide +kernel
theorem d_Re_nextVint_47 : decode prog_5_method_15_code 47 = .ok (.getfield 57, 3) := by decide +kernel
theorem d_Re_nextVint_50 : decode prog_5_method_15_code 50 = .ok (.aload_n 0, 1) := by decide +kernel
theorem d_Re_nextVint_51 : decode prog_5_method_15_code 51 = .ok (.getfield 32, 3) := by decide +kernel
theorem d_Re_nextVint_54 : decode prog_5_method_15_code 54 = .ok (.isub, 1) := by decide +kernel
theorem d_Re_nextVint_55 : decode prog_5_method_15_code 55 = .ok (.if_icmp .le 7, 3) := by decide +kernel
theorem d_Re_nextVint_58 : decode prog_5_method_15_code 58 = .ok (.ldc2_w 182, 3) := by decide +kernel
theorem d_Re_nextVint_61 : decode prog_5_method_15_code 61 = .ok (.lreturn, 1) := by decide +kernel
theorem d_Re_nextVint_62 : decode prog_5_method_15_code 62 = .ok (.aload_n 0, 1) := by decide +kernel
theorem d_Re_nextVint_63 : decode prog_5_method_15_code 63 = .ok (.getfield 176, 3) := by decide +kernel
theorem d_Re_nextVint_66 : decode prog_5_method_15_code 66 = .ok (.invokestatic 191, 3) := by decide +kernel
theorem d_Re_nextVint_69 : decode prog_5_method_15_code 69 = .ok (.lstore_n 1, 1) := by decide +kernel
theorem d_Re_nextVint_70 : decode prog_5_method_15_code 70 = .ok (.aload_n 0, 1) := by decide +kernel
theorem d_Re_nextVint_71 : decode prog_5_method_15_code 71 = .ok (.aload_n 0, 1) := by decide +kernel
theorem d_Re_nextVint_72 : decode prog_5_method_15_code 72 = .ok (.getfield 176, 3) := by decide +kernel
theorem d_Re_nextVint_75 : decode prog_5_method_15_code 75 = .ok (.invokevirtual 65, 3) := by decide +kernel
theorem d_Re_nextVint_78 : decode prog_5_method_15_code 78 = .ok (.lload_n 1, 1) := by decide +kernel
theorem d_Re_nextVint_79 : decode prog_5_method_15_code 79 = .ok (.land, 1) := by decide +kernel
theorem d_Re_nextVint_80 : decode prog_5_method_15_code 80 = .ok (.lstore_n 3, 1) := by decide +kernel
theorem d_Re_nextVint_81 : decode prog_5_method_15_code 81 = .ok (.aload_n 0, 1) := by decide +kernel
theorem d_Re_nextVint_82 : decode prog_5_method_15_code 82 = .ok (.lload_n 3, 1) := by decide +kernel
theorem d_Re_nextVint_83 : decode prog_5_method_15_code 83 = .ok (.lload_n 1, 1) := by decide +kernel
theorem d_Re_nextVint_84 : decode prog_5_method_15_code 84 = .ok (.lcmp, 1) := by decide +kernel
theorem d_Re_nextVint_85 : decode prog_5_method_15_code 85 = .ok (.ifCond .ne 7, 3) := by decide +kernel
theorem d_Re_nextVint_88 : decode prog_5_method_15_code 88 = .ok (.iconst 1, 1) := by decide +kernel
theorem d_Re_nextVint_89 : decode prog_5_method_15_code 89 = .ok (.goto 4, 3) := by decide +kernel
theorem d_Re_nextVint_92 : decode prog_5_method_15_code 92 = .ok (.iconst 0, 1) := by decide +kernel
theorem d_Re_nextVint_93 : decode prog_5_method_15_code 93 = .ok (.putfield 101, 3) := by decide +kernel
theorem d_Re_nextVint_96 : decode prog_5_method_15_code 96 = .ok (.lload_n 3, 1) := by decide +kernel
theorem d_Re_nextVint_97 : decode prog_5_method_15_code 97 = .ok (.lreturn, 1) := by decide +kernel
theorem d_Wr_init_0 : decode prog_9_method_1_code 0 = .ok (.aload_n 0, 1) := by decide +kernel
theorem d_Wr_init_1 : decode prog_9_method_1_code 1 = .ok (.invokespecial 3, 3) := by decide +kernel
theorem d_Wr_init_4 : decode prog_9_method_1_code 4 = .ok (.aload_n 0, 1) := by decide +kernel
theorem d_Wr_init_5 : decode prog_9_method_1_code 5 = .ok (.new 9, 3) := by decide +kernel
theorem d_Wr_init_8 : decode prog_9_method_1_code 8 = .ok (.dup, 1) := by decide +kernel
theorem d_Wr_init_9 : decode prog_9_method_1_code 9 = .ok (.iconst 0, 1) := by decide +kernel
theorem d_Wr_init_10 : decode prog_9_method_1_code 10 = .ok (.invokespecial 11, 3) := by decide +kernel
theorem d_Wr_init_13 : decode prog_9_method_1_code 13 = .ok (.putfield 14, 3) := by decide +kernel
theorem d_Wr_init_16 : decode prog_9_method_1_code 16 = .ok (.aload_n 0, 1) := by decide +kernel
theorem d_Wr_init_17 : decode prog_9_method_1_code 17 = .ok (.aload_n 1, 1) := by decide +kernel
theorem d_Wr_init_18 : decode prog_9_method_1_code 18 = .ok (.putfield 20, 3) := by decide +kernel
theorem d_Wr_init_21 : decode prog_9_method_1_code 21 = .ok (.aload_n 0, 1) := by decide +kernel
theorem d_Wr_init_22 : decode prog_9_method_1_code 22 = .ok (.aload_n 2, 1) := by decide +kernel
theorem d_Wr_init_23 : decode prog_9_method_1_code 23 = .ok (.putfield 24, 3) := by decide +kernel
theorem d_Wr_init_26 : decode prog_9_method_1_code 26 = .ok (.return_, 1) := by decide +kernel
theorem d_Wr_measureTree_0 : decode prog_9_method_2_code 0 = .ok (.iconst 0, 1) := by decide +kernel
theorem d_Wr_measureTree_1 : decode prog_9_method_2_code 1 = .ok (.istore_n 2, 1) := by decide +kernel
theorem d_Wr_measureTree_2 : decode prog_9_method_2_code 2 = .ok (.iload_n 2, 1) := by decide +kernel
theorem d_Wr_measureTree_3 : decode prog_9_method_2_code 3 = .ok (.aload_n 0, 1) := by decide +kernel
theorem d_Wr_measureTree_4 : decode prog_9_method_2_code 4 = .ok (.getfield 20, 3) := by decide +kernel
theorem d_Wr_measureTree_7 : decode prog_9_method_2_code 7 = .ok (.getfield 27, 3) := by decide +kernel
theorem d_Wr_measureTree_10 : decode prog_9_method_2_code 10 = .ok (.if_icmp .ge 53, 3) := by decide +kernel
theorem d_Wr_measureTree_13 : decode prog_9_method_2_code 13 = .ok (.aload_n 0, 1) := by decide +kernel
theorem d_Wr_measureTree_14 : decode prog_9_method_2_code 14 = .ok (.getfield 14, 3) := by decide +kernel
theorem d_Wr_measureTree_17 : decode prog_9_method_2_code 17 = .ok (.iconst 0, 1) := by decide +kernel
theorem d_Wr_measureTree_18 : decode prog_9_method_2_code 18 = .ok (.putfield 33, 3) := by decide +kernel
theorem d_Wr_measureTree_21 : decode prog_9_method_2_code 21 = .ok (.aload_n 0, 1) := by decide +kernel
theorem d_Wr_measureTree_22 : decode prog_9_method_2_code 22 = .ok (.aload_n 0, 1) := by decide +kernel
theorem d_Wr_measureTree_23 : decode prog_9_method_2_code 23 = .ok (.getfield 20, 3) := by decide +kernel
theorem d_Wr_measureTree_26 : decode prog_9_method_2_code 26 = .ok (.getfield 34, 3) := by decide +kernel
theorem d_Wr_measureTree_29 : decode prog_9_method_2_code 29 = .ok (.iload_n 2, 1) := by decide +kernel
theorem d_Wr_measureTree_30 : decode prog_9_method_2_code 30 = .ok (.aaload, 1) := by decide +kernel
theorem d_Wr_measureTree_31 : decode prog_9_method_2_code 31 = .ok (.aload_n 0, 1) := by decide +kernel
theorem d_Wr_measureTree_32 : decode prog_9_method_2_code 32 = .ok (.getfield 14, 3) := by decide +kernel
theorem d_Wr_measureTree_35 : decode prog_9_method_2_code 35 = .ok (.invokevirtual 38, 3) := by decide +kernel
theorem d_Wr_measureTree_38 : decode prog_9_method_2_code 38 = .ok (.aload_n 0, 1) := by decide +kernel
theorem d_Wr_measureTree_39 : decode prog_9_method_2_code 39 = .ok (.getfield 20, 3) := by decide +kernel
theorem d_Wr_measureTree_42 : decode prog_9_method_2_code 42 = .ok (.getfield 34, 3) := by decide +kernel
theorem d_Wr_measureTree_45 : decode prog_9_method_2_code 45 = .ok (.iload_n 2, 1) := by decide +kernel
theorem d_Wr_measureTree_46 : decode prog_9_method_2_code 46 = .ok (.aaload, 1) := by decide +kernel
theorem d_Wr_measureTree_47 : decode prog_9_method_2_code 47 = .ok (.aload_n 0, 1) := by decide +kernel
theorem d_Wr_measureTree_48 : decode prog_9_method_2_code 48 = .ok (.getfield 14, 3) := by decide +kernel
theorem d_Wr_measureTree_51 : decode prog_9_method_2_code 51 = .ok (.getfield 33, 3) := by decide +kernel
theorem d_Wr_measureTree_54 : decode prog_9_method_2_code 54 = .ok (.putfield 42, 3) := by decide +kernel
theorem d_Wr_measureTree_57 : decode prog_9_method_2_code 57 = .ok (.iinc 2 1, 3) := by decide +kernel
theorem d_Wr_measureTree_60 : decode prog_9_method_2_code 60 = .ok (.goto (-58), 3) := by decide +kernel
theorem d_Wr_measureTree_63 : decode prog_9_method_2_code 63 = .ok (.iconst 0, 1) := by decide +kernel
theorem d_Wr_measureTree_64 : decode prog_9_method_2_code 64 = .ok (.istore_n 2, 1) := by decide +kernel
theorem d_Wr_measureTree_65 : decode prog_9_method_2_code 65 = .ok (.aload_n 0, 1) := by decide +kernel
theorem d_Wr_measureTree_66 : decode prog_9_method_2_code 66 = .ok (.getfield 20, 3) := by decide +kernel
theorem d_Wr_measureTree_69 : decode prog_9_method_2_code 69 = .ok (.getfield 27, 3) := by decide +kernel
theorem d_Wr_measureTree_72 : decode prog_9_method_2_code 72 = .ok (.iconst 1, 1) := by decide +kernel
theorem d_Wr_measureTree_73 : decode prog_9_method_2_code 73 = .ok (.isub, 1) := by decide +kernel
theorem d_Wr_measureTree_74 : decode prog_9_method_2_code 74 = .ok (.istore_n 3, 1) := by decide +kernel
theorem d_Wr_measureTree_75 : decode prog_9_method_2_code 75 = .ok (.iload_n 3, 1) := by decide +kernel
theorem d_Wr_measureTree_76 : decode prog_9_method_2_code 76 = .ok (.ifCond .lt 95, 3) := by decide +kernel
theorem d_Wr_measureTree_79 : decode prog_9_method_2_code 79 = .ok (.aload_n 0, 1) := by decide +kernel
theorem d_Wr_measureTree_80 : decode prog_9_method_2_code 80 = .ok (.getfield 20, 3) := by decide +kernel
theorem d_Wr_measureTree_83 : decode prog_9_method_2_code 83 = .ok (.getfield 34, 3) := by decide +kernel
theorem d_Wr_measureTree_86 : decode prog_9_method_2_code 86 = .ok (.iload_n 3, 1) := by decide +kernel
theorem d_Wr_measureTree_87 : decode prog_9_method_2_code 87 = .ok (.aaload, 1) := by decide +kernel
theorem d_Wr_measureTree_88 : decode prog_9_method_2_code 88 = .ok (.astore 4, 2) := by decide +kernel
theorem d_Wr_measureTree_90 : decode prog_9_method_2_code 90 = .ok (.aload 4, 2) := by decide +kernel
theorem d_Wr_measureTree_92 : decode prog_9_method_2_code 92 = .ok (.iload_n 1, 1) := by decide +kernel
theorem d_Wr_measureTree_93 : decode prog_9_method_2_code 93 = .ok (.invokestatic 47, 3) := by decide +kernel
theorem d_Wr_measureTree_96 : decode prog_9_method_2_code 96 = .ok (.ifCond .eq 7, 3) := by decide +kernel
theorem d_Wr_measureTree_99 : decode prog_9_method_2_code 99 = .ok (.iconst 1, 1) := by decide +kernel
theorem d_Wr_measureTree_100 : decode prog_9_method_2_code 100 = .ok (.goto 12, 3) := by decide +kernel
theorem d_Wr_measureTree_103 : decode prog_9_method_2_code 103 = .ok (.aload 4, 2) := by decide +kernel
theorem d_Wr_measureTree_105 : decode prog_9_method_2_code 105 = .ok (.getfield 42, 3) := by decide +kernel
theorem d_Wr_measureTree_108 : decode prog_9_method_2_code 108 = .ok (.i2l, 1) := by decide +kernel
theorem d_Wr_measureTree_109 : decode prog_9_method_2_code 109 = .ok (.invokestatic 51, 3) := by decide +kernel
theorem d_Wr_measureTree_112 : decode prog_9_method_2_code 112 = .ok (.istore 5, 2) := by decide +kernel
theorem d_Wr_measureTree_114 : decode prog_9_method_2_code 114 = .ok (.aload 4, 2) := by decide +kernel
theorem d_Wr_measureTree_116 : decode prog_9_method_2_code 116 = .ok (.getfield 55, 3) := by decide +kernel
theorem d_Wr_measureTree_119 : decode prog_9_method_2_code 119 = .ok (.i2l, 1) := by decide +kernel
theorem d_Wr_measureTree_120 : decode prog_9_method_2_code 120 = .ok (.invokestatic 58, 3) := by decide +kernel
theorem d_Wr_measureTree_123 : decode prog_9_method_2_code 123 = .ok (.iload 5, 2) := by decide +kernel
theorem d_Wr_measureTree_125 : decode prog_9_method_2_code 125 = .ok (.iadd, 1) := by decide +kernel
theorem d_Wr_measureTree_126 : decode prog_9_method_2_code 126 = .ok (.aload 4, 2) := by decide +kernel
theorem d_Wr_measureTree_128 : decode prog_9_method_2_code 128 = .ok (.getfield 42, 3) := by decide +kernel
theorem d_Wr_measureTree_131 : decode prog_9_method_2_code 131 = .ok (.iadd, 1) := by decide +kernel
theorem d_Wr_measureTree_132 : decode prog_9_method_2_code 132 = .ok (.istore 6, 2) := by decide +kernel
theorem d_Wr_measureTree_134 : decode prog_9_method_2_code 134 = .ok (.aload 4, 2) := by decide +kernel
theorem d_Wr_measureTree_136 : decode prog_9_method_2_code 136 = .ok (.getfield 61, 3) := by decide +kernel
theorem d_Wr_measureTree_139 : decode prog_9_method_2_code 139 = .ok (.ifnonnull 11, 3) := by decide +kernel
theorem d_Wr_measureTree_142 : decode prog_9_method_2_code 142 = .ok (.iload_n 2, 1) := by decide +kernel
theorem d_Wr_measureTree_143 : decode prog_9_method_2_code 143 = .ok (.iload 6, 2) := by decide +kernel
theorem d_Wr_measureTree_145 : decode prog_9_method_2_code 145 = .ok (.iadd, 1) := by decide +kernel
theorem d_Wr_measureTree_146 : decode prog_9_method_2_code 146 = .ok (.istore_n 2, 1) := by decide +kernel
theorem d_Wr_measureTree_147 : decode prog_9_method_2_code 147 = .ok (.goto 18, 3) := by decide +kernel
theorem d_Wr_measureTree_150 : decode prog_9_method_2_code 150 = .ok (.aload 4, 2) := by decide +kernel
theorem d_Wr_measureTree_152 : decode prog_9_method_2_code 152 = .ok (.getfield 61, 3) := by decide +kernel
theorem d_Wr_measureTree_155 : decode prog_9_method_2_code 155 = .ok (.dup, 1) := by decide +kernel
theorem d_Wr_measureTree_156 : decode prog_9_method_2_code 156 = .ok (.getfield 42, 3) := by decide +kernel
theorem d_Wr_measureTree_159 : decode prog_9_method_2_code 159 = .ok (.iload 6, 2) := by decide +kernel
theorem d_Wr_measureTree_161 : decode prog_9_method_2_code 161 = .ok (.iadd, 1) := by decide +kernel
theorem d_Wr_measureTree_162 : decode prog_9_method_2_code 162 = .ok (.putfield 42, 3) := by decide +kernel
theorem d_Wr_measureTree_165 : decode prog_9_method_2_code 165 = .ok (.iinc 3 (-1), 3) := by decide +kernel
theorem d_Wr_measureTree_168 : decode prog_9_method_2_code 168 = .ok (.goto (-93), 3) := by decide +kernel
theorem d_Wr_measureTree_171 : decode prog_9_method_2_code 171 = .ok (.iload_n 2, 1) := by decide +kernel
theorem d_Wr_measureTree_172 : decode prog_9_method_2_code 172 = .ok (.ireturn, 1) := by decide +kernel
theorem d_Wr_putTree_0 : decode prog_9_method_3_code 0 = .ok (.aload_n 0, 1) := by decide +kernel
theorem d_Wr_putTree_1 : decode prog_9_method_3_code 1 = .ok (.getfield 24, 3) := by decide +kernel
theorem d_Wr_putTree_4 : decode prog_9_method_3_code 4 = .ok (.iconst 0, 1) := by decide +kernel
theorem d_Wr_putTree_5 : decode prog_9_method_3_code 5 = .ok (.putfield 33, 3) := by decide +kernel
theorem d_Wr_putTree_8 : decode prog_9_method_3_code 8 = .ok (.iconst 0, 1) := by decide +kernel
theorem d_Wr_putTree_9 : decode prog_9_method_3_code 9 = .ok (.istore_n 2, 1) := by decide +kernel
theorem d_Wr_putTree_10 : decode prog_9_method_3_code 10 = .ok (.iload_n 2, 1) := by decide +kernel
theorem d_Wr_putTree_11 : decode prog_9_method_3_code 11 = .ok (.aload_n 0, 1) := by decide +kernel
theorem d_Wr_putTree_12 : decode prog_9_method_3_code 12 = .ok (.getfield 20, 3) := by decide +kernel
theorem d_Wr_putTree_15 : decode prog_9_method_3_code 15 = .ok (.getfield 27, 3) := by decide +kernel
theorem d_Wr_putTree_18 : decode prog_9_method_3_code 18 = .ok (.if_icmp .ge 40, 3) := by decide +kernel
theorem d_Wr_putTree_21 : decode prog_9_method_3_code 21 = .ok (.aload_n 0, 1) := by decide +kernel
theorem d_Wr_putTree_22 : decode prog_9_method_3_code 22 = .ok (.aload_n 0, 1) := by decide +kernel
theorem d_Wr_putTree_23 : decode prog_9_method_3_code 23 = .ok (.getfield 20, 3) := by decide +kernel
theorem d_Wr_putTree_26 : decode prog_9_method_3_code 26 = .ok (.getfield 34, 3) := by decide +kernel
theorem d_Wr_putTree_29 : decode prog_9_method_3_code 29 = .ok (.iload_n 2, 1) := by decide +kernel
theorem d_Wr_putTree_30 : decode prog_9_method_3_code 30 = .ok (.aaload, 1) := by decide +kernel
theorem d_Wr_putTree_31 : decode prog_9_method_3_code 31 = .ok (.iload_n 1, 1) := by decide +kernel
theorem d_Wr_putTree_32 : decode prog_9_method_3_code 32 = .ok (.invokevirtual 65, 3) := by decide +kernel
theorem d_Wr_putTree_35 : decode prog_9_method_3_code 35 = .ok (.aload_n 0, 1) := by decide +kernel
theorem d_Wr_putTree_36 : decode prog_9_method_3_code 36 = .ok (.aload_n 0, 1) := by decide +kernel
theorem d_Wr_putTree_37 : decode prog_9_method_3_code 37 = .ok (.getfield 20, 3) := by decide +kernel
theorem d_Wr_putTree_40 : decode prog_9_method_3_code 40 = .ok (.getfield 34, 3) := by decide +kernel
theorem d_Wr_putTree_43 : decode prog_9_method_3_code 43 = .ok (.iload_n 2, 1) := by decide +kernel
theorem d_Wr_putTree_44 : decode prog_9_method_3_code 44 = .ok (.aaload, 1) := by decide +kernel
theorem d_Wr_putTree_45 : decode prog_9_method_3_code 45 = .ok (.aload_n 0, 1) := by decide +kernel
theorem d_Wr_putTree_46 : decode prog_9_method_3_code 46 = .ok (.getfield 24, 3) := by decide +kernel
theorem d_Wr_putTree_49 : decode prog_9_method_3_code 49 = .ok (.invokevirtual 38, 3) := by decide +kernel
theorem d_Wr_putTree_52 : decode prog_9_method_3_code 52 = .ok (.iinc 2 1, 3) := by decide +kernel
theorem d_Wr_putTree_55 : decode prog_9_method_3_code 55 = .ok (.goto (-45), 3) := by decide +kernel
theorem d_Wr_putTree_58 : decode prog_9_method_3_code 58 = .ok (.iconst 0, 1) := by decide +kernel
theorem d_Wr_putTree_59 : decode prog_9_method_3_code 59 = .ok (.istore_n 2, 1) := by decide +kernel
theorem d_Wr_putTree_60 : decode prog_9_method_3_code 60 = .ok (.iload_n 2, 1) := by decide +kernel
theorem d_Wr_putTree_61 : decode prog_9_method_3_code 61 = .ok (.aload_n 0, 1) := by decide +kernel
theorem d_Wr_putTree_62 : decode prog_9_method_3_code 62 = .ok (.getfield 20, 3) := by decide +kernel
theorem d_Wr_putTree_65 : decode prog_9_method_3_code 65 = .ok (.getfield 27, 3) := by decide +kernel
theorem d_Wr_putTree_68 : decode prog_9_method_3_code 68 = .ok (.if_icmp .ge 40, 3) := by decide +kernel
theorem d_Wr_putTree_71 : decode prog_9_method_3_code 71 = .ok (.aload_n 0, 1) := by decide +kernel
theorem d_Wr_putTree_72 : decode prog_9_method_3_code 72 = .ok (.getfield 20, 3) := by decide +kernel
theorem d_Wr_putTree_75 : decode prog_9_method_3_code 75 = .ok (.getfield 34, 3) := by decide +kernel
theorem d_Wr_putTree_78 : decode prog_9_method_3_code 78 = .ok (.iload_n 2, 1) := by decide +kernel
theorem d_Wr_putTree_79 : decode prog_9_method_3_code 79 = .ok (.aaload, 1) := by decide +kernel
theorem d_Wr_putTree_80 : decode prog_9_method_3_code 80 = .ok (.getfield 69, 3) := by decide +kernel
theorem d_Wr_putTree_83 : decode prog_9_method_3_code 83 = .ok (.getstatic 73, 3) := by decide +kernel
theorem d_Wr_putTree_86 : decode prog_9_method_3_code 86 = .ok (.if_acmp .ne 16, 3) := by decide +kernel
theorem d_Wr_putTree_89 : decode prog_9_method_3_code 89 = .ok (.aload_n 0, 1) := by decide +kernel
theorem d_Wr_putTree_90 : decode prog_9_method_3_code 90 = .ok (.aload_n 0, 1) := by decide +kernel
theorem d_Wr_putTree_91 : decode prog_9_method_3_code 91 = .ok (.getfield 20, 3) := by decide +kernel
theorem d_Wr_putTree_94 : decode prog_9_method_3_code 94 = .ok (.getfield 34, 3) := by decide +kernel
theorem d_Wr_putTree_97 : decode prog_9_method_3_code 97 = .ok (.iload_n 2, 1) := by decide +kernel
theorem d_Wr_putTree_98 : decode prog_9_method_3_code 98 = .ok (.aaload, 1) := by decide +kernel
theorem d_Wr_putTree_99 : decode prog_9_method_3_code 99 = .ok (.invokevirtual 78, 3) := by decide +kernel
theorem d_Wr_putTree_102 : decode prog_9_method_3_code 102 = .ok (.iinc 2 1, 3) := by decide +kernel
theorem d_Wr_putTree_105 : decode prog_9_method_3_code 105 = .ok (.goto (-45), 3) := by decide +kernel
theorem d_Wr_putTree_108 : decode prog_9_method_3_code 108 = .ok (.aload_n 0, 1) := by decide +kernel
theorem d_Wr_putTree_109 : decode prog_9_method_3_code 109 = .ok (.getfield 24, 3) := by decide +kernel
theorem d_Wr_putTree_112 : decode prog_9_method_3_code 112 = .ok (.getfield 33, 3) := by decide +kernel
theorem d_Wr_putTree_115 : decode prog_9_method_3_code 115 = .ok (.ireturn, 1) := by decide +kernel
theorem d_Wr_isOpen_0 : decode prog_9_method_4_code 0 = .ok (.iload_n 1, 1) := by decide +kernel
theorem d_Wr_isOpen_1 : decode prog_9_method_4_code 1 = .ok (.ifCond .eq 27, 3) := by decide +kernel
theorem d_Wr_isOpen_4 : decode prog_9_method_4_code 4 = .ok (.aload_n 0, 1) := by decide +kernel
theorem d_Wr_isOpen_5 : decode prog_9_method_4_code 5 = .ok (.getfield 69, 3) := by decide +kernel
theorem d_Wr_isOpen_8 : decode prog_9_method_4_code 8 = .ok (.getstatic 82, 3) := by decide +kernel
theorem d_Wr_isOpen_11 : decode prog_9_method_4_code 11 = .ok (.if_acmp .eq 13, 3) := by decide +kernel
theorem d_Wr_isOpen_14 : decode prog_9_method_4_code 14 = .ok (.aload_n 0, 1) := by decide +kernel
theorem d_Wr_isOpen_15 : decode prog_9_method_4_code 15 = .ok (.getfield 69, 3) := by decide +kernel
theorem d_Wr_isOpen_18 : decode prog_9_method_4_code 18 = .ok (.getstatic 85, 3) := by decide +kernel
theorem d_Wr_isOpen_21 : decode prog_9_method_4_code 21 = .ok (.if_acmp .ne 7, 3) := by decide +kernel
theorem d_Wr_isOpen_24 : decode prog_9_method_4_code 24 = .ok (.iconst 1, 1) := by decide +kernel
theorem d_Wr_isOpen_25 : decode prog_9_method_4_code 25 = .ok (.goto 4, 3) := by decide +kernel
theorem d_Wr_isOpen_28 : decode prog_9_method_4_code 28 = .ok (.iconst 0, 1) := by decide +kernel
theorem d_Wr_isOpen_29 : decode prog_9_method_4_code 29 = .ok (.ireturn, 1) := by decide +kernel
theorem d_Wr_putHeader_0 : decode prog_9_method_5_code 0 = .ok (.aload_n 0, 1) := by decide +kernel
theorem d_Wr_putHeader_1 : decode prog_9_method_5_code 1 = .ok (.getfield 24, 3) := by decide +kernel
theorem d_Wr_putHeader_4 : decode prog_9_method_5_code 4 = .ok (.aload_n 1, 1) := by decide +kernel
theorem d_Wr_putHeader_5 : decode prog_9_method_5_code 5 = .ok (.getfield 55, 3) := by decide +kernel
theorem d_Wr_putHeader_8 : decode prog_9_method_5_code 8 = .ok (.i2l, 1) := by decide +kernel
theorem d_Wr_putHeader_9 : decode prog_9_method_5_code 9 = .ok (.aload_n 1, 1) := by decide +kernel
theorem d_Wr_putHeader_10 : decode prog_9_method_5_code 10 = .ok (.getfield 55, 3) := by decide +kernel
theorem d_Wr_putHeader_13 : decode prog_9_method_5_code 13 = .ok (.i2l, 1) := by decide +kernel
theorem d_Wr_putHeader_14 : decode prog_9_method_5_code 14 = .ok (.invokestatic 58, 3) := by decide +kernel
theorem d_Wr_putHeader_17 : decode prog_9_method_5_code 17 = .ok (.invokevirtual 88, 3) := by decide +kernel
theorem d_Wr_putHeader_20 : decode prog_9_method_5_code 20 = .ok (.aload_n 1, 1) := by decide +kernel
theorem d_Wr_putHeader_21 : decode prog_9_method_5_code 21 = .ok (.iload_n 2, 1) := by decide +kernel
theorem d_Wr_putHeader_22 : decode prog_9_method_5_code 22 = .ok (.invokestatic 47, 3) := by decide +kernel
theorem d_Wr_putHeader_25 : decode prog_9_method_5_code 25 = .ok (.ifCond .eq 16, 3) := by decide +kernel
theorem d_Wr_putHeader_28 : decode prog_9_method_5_code 28 = .ok (.aload_n 0, 1) := by decide +kernel
theorem d_Wr_putHeader_29 : decode prog_9_method_5_code 29 = .ok (.getfield 24, 3) := by decide +kernel
theorem d_Wr_putHeader_32 : decode prog_9_method_5_code 32 = .ok (.sipush 255, 3) := by decide +kernel
theorem d_Wr_putHeader_35 : decode prog_9_method_5_code 35 = .ok (.invokevirtual 92, 3) := by decide +kernel
theorem d_Wr_putHeader_38 : decode prog_9_method_5_code 38 = .ok (.goto 23, 3) := by decide +kernel
theorem d_Wr_putHeader_41 : decode prog_9_method_5_code 41 = .ok (.aload_n 0, 1) := by decide +kernel
theorem d_Wr_putHeader_42 : decode prog_9_method_5_code 42 = .ok (.getfield 24, 3) := by decide +kernel
theorem d_Wr_putHeader_45 : decode prog_9_method_5_code 45 = .ok (.aload_n 1, 1) := by decide +kernel
theorem d_Wr_putHeader_46 : decode prog_9_method_5_code 46 = .ok (.getfield 42, 3) := by decide +kernel
theorem d_Wr_putHeader_49 : decode prog_9_method_5_code 49 = .ok (.i2l, 1) := by decide +kernel
theorem d_Wr_putHeader_50 : decode prog_9_method_5_code 50 = .ok (.aload_n 1, 1) := by decide +kernel
theorem d_Wr_putHeader_51 : decode prog_9_method_5_code 51 = .ok (.getfield 42, 3) := by decide +kernel
theorem d_Wr_putHeader_54 : decode prog_9_method_5_code 54 = .ok (.i2l, 1) := by decide +kernel
theorem d_Wr_putHeader_55 : decode prog_9_method_5_code 55 = .ok (.invokestatic 51, 3) := by decide +kernel
theorem d_Wr_putHeader_58 : decode prog_9_method_5_code 58 = .ok (.invokevirtual 95, 3) := by decide +kernel
theorem d_Wr_putHeader_61 : decode prog_9_method_5_code 61 = .ok (.aload_n 1, 1) := by decide +kernel
theorem d_Wr_putHeader_62 : decode prog_9_method_5_code 62 = .ok (.aload_n 0, 1) := by decide +kernel
theorem d_Wr_putHeader_63 : decode prog_9_method_5_code 63 = .ok (.getfield 24, 3) := by decide +kernel
theorem d_Wr_putHeader_66 : decode prog_9_method_5_code 66 = .ok (.getfield 33, 3) := by decide +kernel
theorem d_Wr_putHeader_69 : decode prog_9_method_5_code 69 = .ok (.putfield 98, 3) := by decide +kernel
theorem d_Wr_putHeader_72 : decode prog_9_method_5_code 72 = .ok (.return_, 1) := by decide +kernel
theorem d_Wr_putLeaf_0 : decode prog_9_method_6_code 0 = .ok (.aload_n 1, 1) := by decide +kernel
theorem d_Wr_putLeaf_1 : decode prog_9_method_6_code 1 = .ok (.getfield 69, 3) := by decide +kernel
theorem d_Wr_putLeaf_4 : decode prog_9_method_6_code 4 = .ok (.getfield 101, 3) := by decide +kernel
theorem d_Wr_putLeaf_7 : decode prog_9_method_6_code 7 = .ok (.tableswitch 108 1 6 #[37, 55, 63, 82, 91, 99], 37) := by decide +kernel
theorem d_Wr_putLeaf_44 : decode prog_9_method_6_code 44 = .ok (.aload_n 2, 1) := by decide +kernel
theorem d_Wr_putLeaf_45 : decode prog_9_method_6_code 45 = .ok (.aload_n 1, 1) := by decide +kernel
theorem d_Wr_putLeaf_46 : decode prog_9_method_6_code 46 = .ok (.getfield 104, 3) := by decide +kernel
theorem d_Wr_putLeaf_49 : decode prog_9_method_6_code 49 = .ok (.aload_n 1, 1) := by decide +kernel
theorem d_Wr_putLeaf_50 : decode prog_9_method_6_code 50 = .ok (.getfield 104, 3) := by decide +kernel
theorem d_Wr_putLeaf_53 : decode prog_9_method_6_code 53 = .ok (.invokestatic 58, 3) := by decide +kernel
theorem d_Wr_putLeaf_56 : decode prog_9_method_6_code 56 = .ok (.invokevirtual 88, 3) := by decide +kernel
theorem d_Wr_putLeaf_59 : decode prog_9_method_6_code 59 = .ok (.goto 56, 3) := by decide +kernel
theorem d_Wr_putLeaf_62 : decode prog_9_method_6_code 62 = .ok (.aload_n 1, 1) := by decide +kernel
theorem d_Wr_putLeaf_63 : decode prog_9_method_6_code 63 = .ok (.aload_n 2, 1) := by decide +kernel
theorem d_Wr_putLeaf_64 : decode prog_9_method_6_code 64 = .ok (.invokestatic 108, 3) := by decide +kernel
theorem d_Wr_putLeaf_67 : decode prog_9_method_6_code 67 = .ok (.goto 48, 3) := by decide +kernel
theorem d_Wr_putLeaf_70 : decode prog_9_method_6_code 70 = .ok (.aload_n 1, 1) := by decide +kernel
theorem d_Wr_putLeaf_71 : decode prog_9_method_6_code 71 = .ok (.aload_n 2, 1) := by decide +kernel
theorem d_Wr_putLeaf_72 : decode prog_9_method_6_code 72 = .ok (.invokestatic 111, 3) := by decide +kernel
theorem d_Wr_putLeaf_75 : decode prog_9_method_6_code 75 = .ok (.aload_n 1, 1) := by decide +kernel
theorem d_Wr_putLeaf_76 : decode prog_9_method_6_code 76 = .ok (.aload_n 2, 1) := by decide +kernel
theorem d_Wr_putLeaf_77 : decode prog_9_method_6_code 77 = .ok (.invokestatic 114, 3) := by decide +kernel
theorem d_Wr_putLeaf_80 : decode prog_9_method_6_code 80 = .ok (.aload_n 0, 1) := by decide +kernel
theorem d_Wr_putLeaf_81 : decode prog_9_method_6_code 81 = .ok (.aload_n 1, 1) := by decide +kernel
theorem d_Wr_putLeaf_82 : decode prog_9_method_6_code 82 = .ok (.aload_n 2, 1) := by decide +kernel
theorem d_Wr_putLeaf_83 : decode prog_9_method_6_code 83 = .ok (.invokevirtual 117, 3) := by decide +kernel
theorem d_Wr_putLeaf_86 : decode prog_9_method_6_code 86 = .ok (.goto 29, 3) := by decide +kernel
theorem d_Wr_putLeaf_89 : decode prog_9_method_6_code 89 = .ok (.aload_n 2, 1) := by decide +kernel
theorem d_Wr_putLeaf_90 : decode prog_9_method_6_code 90 = .ok (.lconst 0, 1) := by decide +kernel
theorem d_Wr_putLeaf_91 : decode prog_9_method_6_code 91 = .ok (.iconst 4, 1) := by decide +kernel
theorem d_Wr_putLeaf_92 : decode prog_9_method_6_code 92 = .ok (.invokevirtual 88, 3) := by decide +kernel
theorem d_Wr_putLeaf_95 : decode prog_9_method_6_code 95 = .ok (.goto 20, 3) := by decide +kernel
theorem d_Wr_putLeaf_98 : decode prog_9_method_6_code 98 = .ok (.aload_n 1, 1) := by decide +kernel
theorem d_Wr_putLeaf_99 : decode prog_9_method_6_code 99 = .ok (.aload_n 2, 1) := by decide +kernel
theorem d_Wr_putLeaf_100 : decode prog_9_method_6_code 100 = .ok (.invokestatic 120, 3) := by decide +kernel
theorem d_Wr_putLeaf_103 : decode prog_9_method_6_code 103 = .ok (.goto 12, 3) := by decide +kernel
theorem d_Wr_putLeaf_106 : decode prog_9_method_6_code 106 = .ok (.aload_n 0, 1) := by decide +kernel
theorem d_Wr_putLeaf_107 : decode prog_9_method_6_code 107 = .ok (.aload_n 1, 1) := by decide +kernel
theorem d_Wr_putLeaf_108 : decode prog_9_method_6_code 108 = .ok (.aload_n 2, 1) := by decide +kernel
theorem d_Wr_putLeaf_109 : decode prog_9_method_6_code 109 = .ok (.invokevirtual 117, 3) := by decide +kernel
theorem d_Wr_putLeaf_112 : decode prog_9_method_6_code 112 = .ok (.goto 3, 3) := by decide +kernel
theorem d_Wr_putLeaf_115 : decode prog_9_method_6_code 115 = .ok (.return_, 1) := by decide +kernel
theorem d_Wr_fewestBytes_0 : decode prog_9_method_7_code 0 = .ok (.iconst 1, 1) := by decide +kernel
theorem d_Wr_fewestBytes_1 : decode prog_9_method_7_code 1 = .ok (.istore_n 2, 1) := by decide +kernel
theorem d_Wr_fewestBytes_2 : decode prog_9_method_7_code 2 = .ok (.iload_n 2, 1) := by decide +kernel
theorem d_Wr_fewestBytes_3 : decode prog_9_method_7_code 3 = .ok (.bipush 8, 2) := by decide +kernel
theorem d_Wr_fewestBytes_5 : decode prog_9_method_7_code 5 = .ok (.if_icmp .ge 20, 3) := by decide +kernel
theorem d_Wr_fewestBytes_8 : decode prog_9_method_7_code 8 = .ok (.lload_n 0, 1) := by decide +kernel
theorem d_Wr_fewestBytes_9 : decode prog_9_method_7_code 9 = .ok (.bipush 8, 2) := by decide +kernel
theorem d_Wr_fewestBytes_11 : decode prog_9_method_7_code 11 = .ok (.iload_n 2, 1) := by decide +kernel
theorem d_Wr_fewestBytes_12 : decode prog_9_method_7_code 12 = .ok (.imul, 1) := by decide +kernel
theorem d_Wr_fewestBytes_13 : decode prog_9_method_7_code 13 = .ok (.lushr, 1) := by decide +kernel
theorem d_Wr_fewestBytes_14 : decode prog_9_method_7_code 14 = .ok (.lconst 0, 1) := by decide +kernel
theorem d_Wr_fewestBytes_15 : decode prog_9_method_7_code 15 = .ok (.lcmp, 1) := by decide +kernel
theorem d_Wr_fewestBytes_16 : decode prog_9_method_7_code 16 = .ok (.ifCond .eq 9, 3) := by decide +kernel
theorem d_Wr_fewestBytes_19 : decode prog_9_method_7_code 19 = .ok (.iinc 2 1, 3) := by decide +kernel
theorem d_Wr_fewestBytes_22 : decode prog_9_method_7_code 22 = .ok (.goto (-20), 3) := by decide +kernel
theorem d_Wr_fewestBytes_25 : decode prog_9_method_7_code 25 = .ok (.iload_n 2, 1) := by decide +kernel
theorem d_Wr_fewestBytes_26 : decode prog_9_method_7_code 26 = .ok (.ireturn, 1) := by decide +kernel
theorem d_Wr_putText_0 : decode prog_9_method_8_code 0 = .ok (.iconst 0, 1) := by decide +kernel
theorem d_Wr_putText_1 : decode prog_9_method_8_code 1 = .ok (.istore_n 2, 1) := by decide +kernel
theorem d_Wr_putText_2 : decode prog_9_method_8_code 2 = .ok (.iload_n 2, 1) := by decide +kernel
theorem d_Wr_putText_3 : decode prog_9_method_8_code 3 = .ok (.i2l, 1) := by decide +kernel
theorem d_Wr_putText_4 : decode prog_9_method_8_code 4 = .ok (.aload_n 0, 1) := by decide +kernel
theorem d_Wr_putText_5 : decode prog_9_method_8_code 5 = .ok (.getfield 104, 3) := by decide +kernel
theorem d_Wr_putText_8 : decode prog_9_method_8_code 8 = .ok (.lcmp, 1) := by decide +kernel
theorem d_Wr_putText_9 : decode prog_9_method_8_code 9 = .ok (.ifCond .ge 18, 3) := by decide +kernel
theorem d_Wr_putText_12 : decode prog_9_method_8_code 12 = .ok (.aload_n 1, 1) := by decide +kernel
theorem d_Wr_putText_13 : decode prog_9_method_8_code 13 = .ok (.aload_n 0, 1) := by decide +kernel
theorem d_Wr_putText_14 : decode prog_9_method_8_code 14 = .ok (.iload_n 2, 1) := by decide +kernel
theorem d_Wr_putText_15 : decode prog_9_method_8_code 15 = .ok (.invokevirtual 123, 3) := by decide +kernel
theorem d_Wr_putText_18 : decode prog_9_method_8_code 18 = .ok (.invokevirtual 92, 3) := by decide +kernel
theorem d_Wr_putText_21 : decode prog_9_method_8_code 21 = .ok (.iinc 2 1, 3) := by decide +kernel
theorem d_Wr_putText_24 : decode prog_9_method_8_code 24 = .ok (.goto (-22), 3) := by decide +kernel
theorem d_Wr_putText_27 : decode prog_9_method_8_code 27 = .ok (.return_, 1) := by decide +kernel
theorem d_Wr_putZeros_0 : decode prog_9_method_9_code 0 = .ok (.iconst 0, 1) := by decide +kernel
theorem d_Wr_putZeros_1 : decode prog_9_method_9_code 1 = .ok (.istore_n 2, 1) := by decide +kernel
theorem d_Wr_putZeros_2 : decode prog_9_method_9_code 2 = .ok (.iload_n 2, 1) := by decide +kernel
theorem d_Wr_putZeros_3 : decode prog_9_method_9_code 3 = .ok (.i2l, 1) := by decide +kernel
theorem d_Wr_putZeros_4 : decode prog_9_method_9_code 4 = .ok (.aload_n 0, 1) := by decide +kernel
theorem d_Wr_putZeros_5 : decode prog_9_method_9_code 5 = .ok (.getfield 104, 3) := by decide +kernel
theorem d_Wr_putZeros_8 : decode prog_9_method_9_code 8 = .ok (.lcmp, 1) := by decide +kernel
theorem d_Wr_putZeros_9 : decode prog_9_method_9_code 9 = .ok (.ifCond .ge 14, 3) := by decide +kernel
theorem d_Wr_putZeros_12 : decode prog_9_method_9_code 12 = .ok (.aload_n 1, 1) := by decide +kernel
theorem d_Wr_putZeros_13 : decode prog_9_method_9_code 13 = .ok (.iconst 0, 1) := by decide +kernel
theorem d_Wr_putZeros_14 : decode prog_9_method_9_code 14 = .ok (.invokevirtual 92, 3) := by decide +kernel
theorem d_Wr_putZeros_17 : decode prog_9_method_9_code 17 = .ok (.iinc 2 1, 3) := by decide +kernel
theorem d_Wr_putZeros_20 : decode prog_9_method_9_code 20 = .ok (.goto (-18), 3) := by decide +kernel
theorem d_Wr_putZeros_23 : decode prog_9_method_9_code 23 = .ok (.return_, 1) := by decide +kernel
theorem d_Wr_putStored_0 : decode prog_9_method_10_code 0 = .ok (.iconst 0, 1) := by decide +kernel
theorem d_Wr_putStored_1 : decode prog_9_method_10_code 1 = .ok (.istore_n 3, 1) := by decide +kernel
theorem d_Wr_putStored_2 : decode prog_9_method_10_code 2 = .ok (.iload_n 3, 1) := by decide +kernel
theorem d_Wr_putStored_3 : decode prog_9_method_10_code 3 = .ok (.aload_n 1, 1) := by decide +kernel
theorem d_Wr_putStored_4 : decode prog_9_method_10_code 4 = .ok (.getfield 127, 3) := by decide +kernel
theorem d_Wr_putStored_7 : decode prog_9_method_10_code 7 = .ok (.if_icmp .ge 26, 3) := by decide +kernel
theorem d_Wr_putStored_10 : decode prog_9_method_10_code 10 = .ok (.aload_n 2, 1) := by decide +kernel
theorem d_Wr_putStored_11 : decode prog_9_method_10_code 11 = .ok (.aload_n 0, 1) := by decide +kernel
theorem d_Wr_putStored_12 : decode prog_9_method_10_code 12 = .ok (.getfield 20, 3) := by decide +kernel
theorem d_Wr_putStored_15 : decode prog_9_method_10_code 15 = .ok (.aload_n 1, 1) := by decide +kernel
theorem d_Wr_putStored_16 : decode prog_9_method_10_code 16 = .ok (.getfield 130, 3) := by decide +kernel
theorem d_Wr_putStored_19 : decode prog_9_method_10_code 19 = .ok (.iload_n 3, 1) := by decide +kernel
theorem d_Wr_putStored_20 : decode prog_9_method_10_code 20 = .ok (.iadd, 1) := by decide +kernel
theorem d_Wr_putStored_21 : decode prog_9_method_10_code 21 = .ok (.invokevirtual 133, 3) := by decide +kernel
theorem d_Wr_putStored_24 : decode prog_9_method_10_code 24 = .ok (.invokevirtual 92, 3) := by decide +kernel
theorem d_Wr_putStored_27 : decode prog_9_method_10_code 27 = .ok (.iinc 3 1, 3) := by decide +kernel
theorem d_Wr_putStored_30 : decode prog_9_method_10_code 30 = .ok (.goto (-28), 3) := by decide +kernel
theorem d_Wr_putStored_33 : decode prog_9_method_10_code 33 = .ok (.return_, 1) := by decide +kernel
theorem d_Wr_putBlockHead_0 : decode prog_9_method_11_code 0 = .ok (.aload_n 1, 1) := by decide +kernel
theorem d_Wr_putBlockHead_1 : decode prog_9_method_11_code 1 = .ok (.aload_n 0, 1) := by decide +kernel
theorem d_Wr_putBlockHead_2 : decode prog_9_method_11_code 2 = .ok (.getfield 136, 3) := by decide +kernel
theorem d_Wr_putBlockHead_5 : decode prog_9_method_11_code 5 = .ok (.i2l, 1) := by decide +kernel
theorem d_Wr_putBlockHead_6 : decode prog_9_method_11_code 6 = .ok (.aload_n 0, 1) := by decide +kernel
theorem d_Wr_putBlockHead_7 : decode prog_9_method_11_code 7 = .ok (.getfield 136, 3) := by decide +kernel
theorem d_Wr_putBlockHead_10 : decode prog_9_method_11_code 10 = .ok (.i2l, 1) := by decide +kernel
theorem d_Wr_putBlockHead_11 : decode prog_9_method_11_code 11 = .ok (.invokestatic 51, 3) := by decide +kernel
theorem d_Wr_putBlockHead_14 : decode prog_9_method_11_code 14 = .ok (.invokevirtual 95, 3) := by decide +kernel
theorem d_Wr_putBlockHead_17 : decode prog_9_method_11_code 17 = .ok (.aload_n 1, 1) := by decide +kernel
theorem d_Wr_putBlockHead_18 : decode prog_9_method_11_code 18 = .ok (.aload_n 0, 1) := by decide +kernel
theorem d_Wr_putBlockHead_19 : decode prog_9_method_11_code 19 = .ok (.getfield 139, 3) := by decide +kernel
theorem d_Wr_putBlockHead_22 : decode prog_9_method_11_code 22 = .ok (.i2l, 1) := by decide +kernel
theorem d_Wr_putBlockHead_23 : decode prog_9_method_11_code 23 = .ok (.iconst 2, 1) := by decide +kernel
theorem d_Wr_putBlockHead_24 : decode prog_9_method_11_code 24 = .ok (.invokevirtual 88, 3) := by decide +kernel
theorem d_Wr_putBlockHead_27 : decode prog_9_method_11_code 27 = .ok (.aload_n 1, 1) := by decide +kernel
theorem d_Wr_putBlockHead_28 : decode prog_9_method_11_code 28 = .ok (.aload_n 0, 1) := by decide +kernel
theorem d_Wr_putBlockHead_29 : decode prog_9_method_11_code 29 = .ok (.getfield 142, 3) := by decide +kernel
theorem d_Wr_putBlockHead_32 : decode prog_9_method_11_code 32 = .ok (.ifCond .eq 9, 3) := by decide +kernel
theorem d_Wr_putBlockHead_35 : decode prog_9_method_11_code 35 = .ok (.sipush 128, 3) := by decide +kernel
theorem d_Wr_putBlockHead_38 : decode prog_9_method_11_code 38 = .ok (.goto 4, 3) := by decide +kernel
theorem d_Wr_putBlockHead_41 : decode prog_9_method_11_code 41 = .ok (.iconst 0, 1) := by decide +kernel
theorem d_Wr_putBlockHead_42 : decode prog_9_method_11_code 42 = .ok (.iconst 2, 1) := by decide +kernel
theorem d_Wr_putBlockHead_43 : decode prog_9_method_11_code 43 = .ok (.aload_n 0, 1) := by decide +kernel
theorem d_Wr_putBlockHead_44 : decode prog_9_method_11_code 44 = .ok (.getfield 146, 3) := by decide +kernel
theorem d_Wr_putBlockHead_47 : decode prog_9_method_11_code 47 = .ok (.imul, 1) := by decide +kernel
theorem d_Wr_putBlockHead_48 : decode prog_9_method_11_code 48 = .ok (.iadd, 1) := by decide +kernel
theorem d_Wr_putBlockHead_49 : decode prog_9_method_11_code 49 = .ok (.invokevirtual 92, 3) := by decide +kernel
theorem d_Wr_putBlockHead_52 : decode prog_9_method_11_code 52 = .ok (.aload_n 0, 1) := by decide +kernel
theorem d_Wr_putBlockHead_53 : decode prog_9_method_11_code 53 = .ok (.getfield 146, 3) := by decide +kernel
theorem d_Wr_putBlockHead_56 : decode prog_9_method_11_code 56 = .ok (.ifCond .eq 14, 3) := by decide +kernel
theorem d_Wr_putBlockHead_59 : decode prog_9_method_11_code 59 = .ok (.aload_n 1, 1) := by decide +kernel
theorem d_Wr_putBlockHead_60 : decode prog_9_method_11_code 60 = .ok (.aload_n 0, 1) := by decide +kernel
theorem d_Wr_putBlockHead_61 : decode prog_9_method_11_code 61 = .ok (.getfield 104, 3) := by decide +kernel
theorem d_Wr_putBlockHead_64 : decode prog_9_method_11_code 64 = .ok (.l2i, 1) := by decide +kernel
theorem d_Wr_putBlockHead_65 : decode prog_9_method_11_code 65 = .ok (.iconst 1, 1) := by decide +kernel
theorem d_Wr_putBlockHead_66 : decode prog_9_method_11_code 66 = .ok (.isub, 1) := by decide +kernel
theorem d_Wr_putBlockHead_67 : decode prog_9_method_11_code 67 = .ok (.invokevirtual 92, 3) := by decide +kernel
theorem d_Wr_putBlockHead_70 : decode prog_9_method_11_code 70 = .ok (.return_, 1) := by decide +kernel
theorem d_Wr_putSizes_0 : decode prog_9_method_12_code 0 = .ok (.iconst 0, 1) := by decide +kernel
theorem d_Wr_putSizes_1 : decode prog_9_method_12_code 1 = .ok (.istore_n 2, 1) := by decide +kernel
theorem d_Wr_putSizes_2 : decode prog_9_method_12_code 2 = .ok (.iload_n 2, 1) := by decide +kernel
theorem d_Wr_putSizes_3 : decode prog_9_method_12_code 3 = .ok (.i2l, 1) := by decide +kernel
theorem d_Wr_putSizes_4 : decode prog_9_method_12_code 4 = .ok (.aload_n 0, 1) := by decide +kernel
theorem d_Wr_putSizes_5 : decode prog_9_method_12_code 5 = .ok (.getfield 104, 3) := by decide +kernel
theorem d_Wr_putSizes_8 : decode prog_9_method_12_code 8 = .ok (.lconst 1, 1) := by decide +kernel
theorem d_Wr_putSizes_9 : decode prog_9_method_12_code 9 = .ok (.lsub, 1) := by decide +kernel
theorem d_Wr_putSizes_10 : decode prog_9_method_12_code 10 = .ok (.lcmp, 1) := by decide +kernel
theorem d_Wr_putSizes_11 : decode prog_9_method_12_code 11 = .ok (.ifCond .ge 98, 3) := by decide +kernel
theorem d_Wr_putSizes_14 : decode prog_9_method_12_code 14 = .ok (.aload_n 0, 1) := by decide +kernel
theorem d_Wr_putSizes_15 : decode prog_9_method_12_code 15 = .ok (.iload_n 2, 1) := by decide +kernel
theorem d_Wr_putSizes_16 : decode prog_9_method_12_code 16 = .ok (.invokevirtual 123, 3) := by decide +kernel
theorem d_Wr_putSizes_19 : decode prog_9_method_12_code 19 = .ok (.istore_n 3, 1) := by decide +kernel
theorem d_Wr_putSizes_20 : decode prog_9_method_12_code 20 = .ok (.aload_n 0, 1) := by decide +kernel
theorem d_Wr_putSizes_21 : decode prog_9_method_12_code 21 = .ok (.getfield 146, 3) := by decide +kernel
theorem d_Wr_putSizes_24 : decode prog_9_method_12_code 24 = .ok (.iconst 1, 1) := by decide +kernel
theorem d_Wr_putSizes_25 : decode prog_9_method_12_code 25 = .ok (.if_icmp .ne 11, 3) := by decide +kernel
theorem d_Wr_putSizes_28 : decode prog_9_method_12_code 28 = .ok (.iload_n 3, 1) := by decide +kernel
theorem d_Wr_putSizes_29 : decode prog_9_method_12_code 29 = .ok (.aload_n 1, 1) := by decide +kernel
theorem d_Wr_putSizes_30 : decode prog_9_method_12_code 30 = .ok (.invokestatic 149, 3) := by decide +kernel
theorem d_Wr_putSizes_33 : decode prog_9_method_12_code 33 = .ok (.goto 70, 3) := by decide +kernel
theorem d_Wr_putSizes_36 : decode prog_9_method_12_code 36 = .ok (.aload_n 0, 1) := by decide +kernel
theorem d_Wr_putSizes_37 : decode prog_9_method_12_code 37 = .ok (.getfield 146, 3) := by decide +kernel
theorem d_Wr_putSizes_40 : decode prog_9_method_12_code 40 = .ok (.iconst 3, 1) := by decide +kernel
theorem d_Wr_putSizes_41 : decode prog_9_method_12_code 41 = .ok (.if_icmp .ne 21, 3) := by decide +kernel
theorem d_Wr_putSizes_44 : decode prog_9_method_12_code 44 = .ok (.iload_n 2, 1) := by decide +kernel
theorem d_Wr_putSizes_45 : decode prog_9_method_12_code 45 = .ok (.ifCond .ne 17, 3) := by decide +kernel
theorem d_Wr_putSizes_48 : decode prog_9_method_12_code 48 = .ok (.aload_n 1, 1) := by decide +kernel
theorem d_Wr_putSizes_49 : decode prog_9_method_12_code 49 = .ok (.iload_n 3, 1) := by decide +kernel
theorem d_Wr_putSizes_50 : decode prog_9_method_12_code 50 = .ok (.i2l, 1) := by decide +kernel
theorem d_Wr_putSizes_51 : decode prog_9_method_12_code 51 = .ok (.iload_n 3, 1) := by decide +kernel
theorem d_Wr_putSizes_52 : decode prog_9_method_12_code 52 = .ok (.i2l, 1) := by decide +kernel
theorem d_Wr_putSizes_53 : decode prog_9_method_12_code 53 = .ok (.invokestatic 51, 3) := by decide +kernel
theorem d_Wr_putSizes_56 : decode prog_9_method_12_code 56 = .ok (.invokevirtual 95, 3) := by decide +kernel
theorem d_Wr_putSizes_59 : decode prog_9_method_12_code 59 = .ok (.goto 44, 3) := by decide +kernel
theorem d_Wr_putSizes_62 : decode prog_9_method_12_code 62 = .ok (.aload_n 0, 1) := by decide +kernel
theorem d_Wr_putSizes_63 : decode prog_9_method_12_code 63 = .ok (.getfield 146, 3) := by decide +kernel
theorem d_Wr_putSizes_66 : decode prog_9_method_12_code 66 = .ok (.iconst 3, 1) := by decide +kernel
theorem d_Wr_putSizes_67 : decode prog_9_method_12_code 67 = .ok (.if_icmp .ne 36, 3) := by decide +kernel
theorem d_Wr_putSizes_70 : decode prog_9_method_12_code 70 = .ok (.iload_n 3, 1) := by decide +kernel
theorem d_Wr_putSizes_71 : decode prog_9_method_12_code 71 = .ok (.aload_n 0, 1) := by decide +kernel
theorem d_Wr_putSizes_72 : decode prog_9_method_12_code 72 = .ok (.iload_n 2, 1) := by decide +kernel
theorem d_Wr_putSizes_73 : decode prog_9_method_12_code 73 = .ok (.iconst 1, 1) := by decide +kernel
theorem d_Wr_putSizes_74 : decode prog_9_method_12_code 74 = .ok (.isub, 1) := by decide +kernel
theorem d_Wr_putSizes_75 : decode prog_9_method_12_code 75 = .ok (.invokevirtual 123, 3) := by decide +kernel
theorem d_Wr_putSizes_78 : decode prog_9_method_12_code 78 = .ok (.isub, 1) := by decide +kernel
theorem d_Wr_putSizes_79 : decode prog_9_method_12_code 79 = .ok (.istore 4, 2) := by decide +kernel
theorem d_Wr_putSizes_81 : decode prog_9_method_12_code 81 = .ok (.iload 4, 2) := by decide +kernel
theorem d_Wr_putSizes_83 : decode prog_9_method_12_code 83 = .ok (.invokestatic 153, 3) := by decide +kernel
theorem d_Wr_putSizes_86 : decode prog_9_method_12_code 86 = .ok (.istore 5, 2) := by decide +kernel
theorem d_Wr_putSizes_88 : decode prog_9_method_12_code 88 = .ok (.aload_n 1, 1) := by decide +kernel
theorem d_Wr_putSizes_89 : decode prog_9_method_12_code 89 = .ok (.iload 4, 2) := by decide +kernel
theorem d_Wr_putSizes_91 : decode prog_9_method_12_code 91 = .ok (.i2l, 1) := by decide +kernel
theorem d_Wr_putSizes_92 : decode prog_9_method_12_code 92 = .ok (.iload 5, 2) := by decide +kernel
theorem d_Wr_putSizes_94 : decode prog_9_method_12_code 94 = .ok (.invokestatic 156, 3) := by decide +kernel
theorem d_Wr_putSizes_97 : decode prog_9_method_12_code 97 = .ok (.ladd, 1) := by decide +kernel
theorem d_Wr_putSizes_98 : decode prog_9_method_12_code 98 = .ok (.iload 5, 2) := by decide +kernel
theorem d_Wr_putSizes_100 : decode prog_9_method_12_code 100 = .ok (.invokevirtual 95, 3) := by decide +kernel
theorem d_Wr_putSizes_103 : decode prog_9_method_12_code 103 = .ok (.iinc 2 1, 3) := by decide +kernel
theorem d_Wr_putSizes_106 : decode prog_9_method_12_code 106 = .ok (.goto (-104), 3) := by decide +kernel
theorem d_Wr_putSizes_109 : decode prog_9_method_12_code 109 = .ok (.return_, 1) := by decide +kernel
theorem d_Wr_putSizeOfBytes_0 : decode prog_9_method_13_code 0 = .ok (.iload_n 0, 1) := by decide +kernel
theorem d_Wr_putSizeOfBytes_1 : decode prog_9_method_13_code 1 = .ok (.istore_n 2, 1) := by decide +kernel
theorem d_Wr_putSizeOfBytes_2 : decode prog_9_method_13_code 2 = .ok (.iload_n 2, 1) := by decide +kernel
theorem d_Wr_putSizeOfBytes_3 : decode prog_9_method_13_code 3 = .ok (.sipush 255, 3) := by decide +kernel
theorem d_Wr_putSizeOfBytes_6 : decode prog_9_method_13_code 6 = .ok (.if_icmp .lt 19, 3) := by decide +kernel
theorem d_Wr_putSizeOfBytes_9 : decode prog_9_method_13_code 9 = .ok (.aload_n 1, 1) := by decide +kernel
theorem d_Wr_putSizeOfBytes_10 : decode prog_9_method_13_code 10 = .ok (.sipush 255, 3) := by decide +kernel
theorem d_Wr_putSizeOfBytes_13 : decode prog_9_method_13_code 13 = .ok (.invokevirtual 92, 3) := by decide +kernel
theorem d_Wr_putSizeOfBytes_16 : decode prog_9_method_13_code 16 = .ok (.iinc 2 (-255), 6) := by decide +kernel
theorem d_Wr_putSizeOfBytes_22 : decode prog_9_method_13_code 22 = .ok (.goto (-20), 3) := by decide +kernel
theorem d_Wr_putSizeOfBytes_25 : decode prog_9_method_13_code 25 = .ok (.aload_n 1, 1) := by decide +kernel
theorem d_Wr_putSizeOfBytes_26 : decode prog_9_method_13_code 26 = .ok (.iload_n 2, 1) := by decide +kernel
theorem d_Wr_putSizeOfBytes_27 : decode prog_9_method_13_code 27 = .ok (.invokevirtual 92, 3) := by decide +kernel
theorem d_Wr_putSizeOfBytes_30 : decode prog_9_method_13_code 30 = .ok (.return_, 1) := by decide +kernel
theorem d_Wr_shortestDifferenceLength_0 : decode prog_9_method_14_code 0 = .ok (.iconst 1, 1) := by decide +kernel
theorem d_Wr_shortestDifferenceLength_1 : decode prog_9_method_14_code 1 = .ok (.istore_n 1, 1) := by decide +kernel
theorem d_Wr_shortestDifferenceLength_2 : decode prog_9_method_14_code 2 = .ok (.iload_n 1, 1) := by decide +kernel
theorem d_Wr_shortestDifferenceLength_3 : decode prog_9_method_14_code 3 = .ok (.bipush 8, 2) := by decide +kernel
theorem d_Wr_shortestDifferenceLength_5 : decode prog_9_method_14_code 5 = .ok (.if_icmp .ge 22, 3) := by decide +kernel
theorem d_Wr_shortestDifferenceLength_8 : decode prog_9_method_14_code 8 = .ok (.iload_n 0, 1) := by decide +kernel
theorem d_Wr_shortestDifferenceLength_9 : decode prog_9_method_14_code 9 = .ok (.invokestatic 160, 3) := by decide +kernel
theorem d_Wr_shortestDifferenceLength_12 : decode prog_9_method_14_code 12 = .ok (.i2l, 1) := by decide +kernel
theorem d_Wr_shortestDifferenceLength_13 : decode prog_9_method_14_code 13 = .ok (.iload_n 1, 1) := by decide +kernel
theorem d_Wr_shortestDifferenceLength_14 : decode prog_9_method_14_code 14 = .ok (.invokestatic 156, 3) := by decide +kernel
theorem d_Wr_shortestDifferenceLength_17 : decode prog_9_method_14_code 17 = .ok (.lcmp, 1) := by decide +kernel
theorem d_Wr_shortestDifferenceLength_18 : decode prog_9_method_14_code 18 = .ok (.ifCond .le 9, 3) := by decide +kernel
theorem d_Wr_shortestDifferenceLength_21 : decode prog_9_method_14_code 21 = .ok (.iinc 1 1, 3) := by decide +kernel
theorem d_Wr_shortestDifferenceLength_24 : decode prog_9_method_14_code 24 = .ok (.goto (-22), 3) := by decide +kernel
theorem d_Wr_shortestDifferenceLength_27 : decode prog_9_method_14_code 27 = .ok (.iload_n 1, 1) := by decide +kernel
theorem d_Wr_shortestDifferenceLength_28 : decode prog_9_method_14_code 28 = .ok (.ireturn, 1) := by decide +kernel
theorem d_Wr_fillCheck_0 : decode prog_9_method_15_code 0 = .ok (.aload_n 1, 1) := by decide +kernel
theorem d_Wr_fillCheck_1 : decode prog_9_method_15_code 1 = .ok (.getfield 61, 3) := by decide +kernel
theorem d_Wr_fillCheck_4 : decode prog_9_method_15_code 4 = .ok (.ifnonnull 4, 3) := by decide +kernel
theorem d_Wr_fillCheck_7 : decode prog_9_method_15_code 7 = .ok (.return_, 1) := by decide +kernel
theorem d_Wr_fillCheck_8 : decode prog_9_method_15_code 8 = .ok (.aload_n 1, 1) := by decide +kernel
theorem d_Wr_fillCheck_9 : decode prog_9_method_15_code 9 = .ok (.getfield 98, 3) := by decide +kernel
theorem d_Wr_fillCheck_12 : decode prog_9_method_15_code 12 = .ok (.iconst 4, 1) := by decide +kernel
theorem d_Wr_fillCheck_13 : decode prog_9_method_15_code 13 = .ok (.iadd, 1) := by decide +kernel
theorem d_Wr_fillCheck_14 : decode prog_9_method_15_code 14 = .ok (.istore_n 2, 1) := by decide +kernel
theorem d_Wr_fillCheck_15 : decode prog_9_method_15_code 15 = .ok (.aload_n 0, 1) := by decide +kernel
theorem d_Wr_fillCheck_16 : decode prog_9_method_15_code 16 = .ok (.getfield 24, 3) := by decide +kernel
theorem d_Wr_fillCheck_19 : decode prog_9_method_15_code 19 = .ok (.iload_n 2, 1) := by decide +kernel
theorem d_Wr_fillCheck_20 : decode prog_9_method_15_code 20 = .ok (.aload_n 1, 1) := by decide +kernel
theorem d_Wr_fillCheck_21 : decode prog_9_method_15_code 21 = .ok (.getfield 61, 3) := by decide +kernel
theorem d_Wr_fillCheck_24 : decode prog_9_method_15_code 24 = .ok (.getfield 98, 3) := by decide +kernel
theorem d_Wr_fillCheck_27 : decode prog_9_method_15_code 27 = .ok (.aload_n 1, 1) := by decide +kernel
theorem d_Wr_fillCheck_28 : decode prog_9_method_15_code 28 = .ok (.getfield 61, 3) := by decide +kernel
theorem d_Wr_fillCheck_31 : decode prog_9_method_15_code 31 = .ok (.getfield 42, 3) := by decide +kernel
theorem d_Wr_fillCheck_34 : decode prog_9_method_15_code 34 = .ok (.iadd, 1) := by decide +kernel
theorem d_Wr_fillCheck_35 : decode prog_9_method_15_code 35 = .ok (.invokevirtual 165, 3) := by decide +kernel
theorem d_Wr_fillCheck_38 : decode prog_9_method_15_code 38 = .ok (.istore_n 3, 1) := by decide +kernel
theorem d_Wr_fillCheck_39 : decode prog_9_method_15_code 39 = .ok (.iconst 0, 1) := by decide +kernel
theorem d_Wr_fillCheck_40 : decode prog_9_method_15_code 40 = .ok (.istore 4, 2) := by decide +kernel
theorem d_Wr_fillCheck_42 : decode prog_9_method_15_code 42 = .ok (.iload 4, 2) := by decide +kernel
theorem d_Wr_fillCheck_44 : decode prog_9_method_15_code 44 = .ok (.iconst 4, 1) := by decide +kernel
theorem d_Wr_fillCheck_45 : decode prog_9_method_15_code 45 = .ok (.if_icmp .ge 30, 3) := by decide +kernel
theorem d_Wr_fillCheck_48 : decode prog_9_method_15_code 48 = .ok (.aload_n 0, 1) := by decide +kernel
theorem d_Wr_fillCheck_49 : decode prog_9_method_15_code 49 = .ok (.getfield 24, 3) := by decide +kernel
theorem d_Wr_fillCheck_52 : decode prog_9_method_15_code 52 = .ok (.aload_n 1, 1) := by decide +kernel
theorem d_Wr_fillCheck_53 : decode prog_9_method_15_code 53 = .ok (.getfield 98, 3) := by decide +kernel
theorem d_Wr_fillCheck_56 : decode prog_9_method_15_code 56 = .ok (.iload 4, 2) := by decide +kernel
theorem d_Wr_fillCheck_58 : decode prog_9_method_15_code 58 = .ok (.iadd, 1) := by decide +kernel
theorem d_Wr_fillCheck_59 : decode prog_9_method_15_code 59 = .ok (.iload_n 3, 1) := by decide +kernel
theorem d_Wr_fillCheck_60 : decode prog_9_method_15_code 60 = .ok (.bipush 8, 2) := by decide +kernel
theorem d_Wr_fillCheck_62 : decode prog_9_method_15_code 62 = .ok (.iload 4, 2) := by decide +kernel
theorem d_Wr_fillCheck_64 : decode prog_9_method_15_code 64 = .ok (.imul, 1) := by decide +kernel
theorem d_Wr_fillCheck_65 : decode prog_9_method_15_code 65 = .ok (.iushr, 1) := by decide +kernel
theorem d_Wr_fillCheck_66 : decode prog_9_method_15_code 66 = .ok (.invokevirtual 169, 3) := by decide +kernel
theorem d_Wr_fillCheck_69 : decode prog_9_method_15_code 69 = .ok (.iinc 4 1, 3) := by decide +kernel
theorem d_Wr_fillCheck_72 : decode prog_9_method_15_code 72 = .ok (.goto (-30), 3) := by decide +kernel
theorem d_Wr_fillCheck_75 : decode prog_9_method_15_code 75 = .ok (.return_, 1) := by decide +kernel
theorem d_Fi_init_0 : decode prog_3_method_1_code 0 = .ok (.aload_n 0, 1) := by decide +kernel
theorem d_Fi_init_1 : decode prog_3_method_1_code 1 = .ok (.invokespecial 3, 3) := by decide +kernel
theorem d_Fi_init_4 : decode prog_3_method_1_code 4 = .ok (.aload_n 0, 1) := by decide +kernel
theorem d_Fi_init_5 : decode prog_3_method_1_code 5 = .ok (.aload_n 1, 1) := by decide +kernel
theorem d_Fi_init_6 : decode prog_3_method_1_code 6 = .ok (.putfield 9, 3) := by decide +kernel
theorem d_Fi_init_9 : decode prog_3_method_1_code 9 = .ok (.return_, 1) := by decide +kernel
theorem d_Fi_renewCues_0 : decode prog_3_method_2_code 0 = .ok (.aload_n 0, 1) := by decide +kernel
theorem d_Fi_renewCues_1 : decode prog_3_method_2_code 1 = .ok (.aload_n 1, 1) := by decide +kernel
theorem d_Fi_renewCues_2 : decode prog_3_method_2_code 2 = .ok (.invokevirtual 15, 3) := by decide +kernel
theorem d_Fi_renewCues_5 : decode prog_3_method_2_code 5 = .ok (.istore_n 2, 1) := by decide +kernel
theorem d_Fi_renewCues_6 : decode prog_3_method_2_code 6 = .ok (.aload_n 0, 1) := by decide +kernel
theorem d_Fi_renewCues_7 : decode prog_3_method_2_code 7 = .ok (.getfield 9, 3) := by decide +kernel
theorem d_Fi_renewCues_10 : decode prog_3_method_2_code 10 = .ok (.getfield 19, 3) := by decide +kernel
theorem d_Fi_renewCues_13 : decode prog_3_method_2_code 13 = .ok (.aload_n 0, 1) := by decide +kernel
theorem d_Fi_renewCues_14 : decode prog_3_method_2_code 14 = .ok (.getfield 9, 3) := by decide +kernel
theorem d_Fi_renewCues_17 : decode prog_3_method_2_code 17 = .ok (.aload_n 1, 1) := by decide +kernel
theorem d_Fi_renewCues_18 : decode prog_3_method_2_code 18 = .ok (.getstatic 25, 3) := by decide +kernel
theorem d_Fi_renewCues_21 : decode prog_3_method_2_code 21 = .ok (.invokevirtual 31, 3) := by decide +kernel
theorem d_Fi_renewCues_24 : decode prog_3_method_2_code 24 = .ok (.isub, 1) := by decide +kernel
theorem d_Fi_renewCues_25 : decode prog_3_method_2_code 25 = .ok (.istore_n 3, 1) := by decide +kernel
theorem d_Fi_renewCues_26 : decode prog_3_method_2_code 26 = .ok (.iload_n 3, 1) := by decide +kernel
theorem d_Fi_renewCues_27 : decode prog_3_method_2_code 27 = .ok (.iconst 4, 1) := by decide +kernel
theorem d_Fi_renewCues_28 : decode prog_3_method_2_code 28 = .ok (.iload_n 2, 1) := by decide +kernel
theorem d_Fi_renewCues_29 : decode prog_3_method_2_code 29 = .ok (.imul, 1) := by decide +kernel
theorem d_Fi_renewCues_30 : decode prog_3_method_2_code 30 = .ok (.iadd, 1) := by decide +kernel
theorem d_Fi_renewCues_31 : decode prog_3_method_2_code 31 = .ok (.bipush 60, 2) := by decide +kernel
theorem d_Fi_renewCues_33 : decode prog_3_method_2_code 33 = .ok (.if_icmp .le 6, 3) := by decide +kernel
theorem d_Fi_renewCues_36 : decode prog_3_method_2_code 36 = .ok (.bipush (-6), 2) := by decide +kernel
theorem d_Fi_renewCues_38 : decode prog_3_method_2_code 38 = .ok (.ireturn, 1) := by decide +kernel
theorem d_Fi_renewCues_39 : decode prog_3_method_2_code 39 = .ok (.aload_n 0, 1) := by decide +kernel
theorem d_Fi_renewCues_40 : decode prog_3_method_2_code 40 = .ok (.getfield 9, 3) := by decide +kernel
theorem d_Fi_renewCues_43 : decode prog_3_method_2_code 43 = .ok (.aload_n 1, 1) := by decide +kernel
theorem d_Fi_renewCues_44 : decode prog_3_method_2_code 44 = .ok (.getstatic 25, 3) := by decide +kernel
theorem d_Fi_renewCues_47 : decode prog_3_method_2_code 47 = .ok (.invokevirtual 35, 3) := by decide +kernel

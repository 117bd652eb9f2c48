theorem d_Mo_blockBytes_10 : decode prog_11_method_49_code 10 = .ok (.goto 4, 3) := by decide +kernel
theorem d_Mo_blockBytes_13 : decode prog_11_method_49_code 13 = .ok (.iconst 4, 1) := by decide +kernel
theorem d_Mo_blockBytes_14 : decode prog_11_method_49_code 14 = .ok (.istore_n 2, 1) := by decide +kernel
theorem d_Mo_blockBytes_15 : decode prog_11_method_49_code 15 = .ok (.iconst 0, 1) := by decide +kernel
theorem d_Mo_blockBytes_16 : decode prog_11_method_49_code 16 = .ok (.istore_n 3, 1) := by decide +kernel
theorem d_Mo_blockBytes_17 : decode prog_11_method_49_code 17 = .ok (.iload_n 3, 1) := by decide +kernel
theorem d_Mo_blockBytes_18 : decode prog_11_method_49_code 18 = .ok (.aload_n 0, 1) := by decide +kernel
theorem d_Mo_blockBytes_19 : decode prog_11_method_49_code 19 = .ok (.getfield 20, 3) := by decide +kernel
theorem d_Mo_blockBytes_22 : decode prog_11_method_49_code 22 = .ok (.iload_n 1, 1) := by decide +kernel
theorem d_Mo_blockBytes_23 : decode prog_11_method_49_code 23 = .ok (.iaload, 1) := by decide +kernel
theorem d_Mo_blockBytes_24 : decode prog_11_method_49_code 24 = .ok (.if_icmp .ge 121, 3) := by decide +kernel
theorem d_Mo_blockBytes_27 : decode prog_11_method_49_code 27 = .ok (.aload_n 0, 1) := by decide +kernel
theorem d_Mo_blockBytes_28 : decode prog_11_method_49_code 28 = .ok (.getfield 39, 3) := by decide +kernel
theorem d_Mo_blockBytes_31 : decode prog_11_method_49_code 31 = .ok (.bipush 8, 2) := by decide +kernel
theorem d_Mo_blockBytes_33 : decode prog_11_method_49_code 33 = .ok (.iload_n 1, 1) := by decide +kernel
theorem d_Mo_blockBytes_34 : decode prog_11_method_49_code 34 = .ok (.imul, 1) := by decide +kernel
theorem d_Mo_blockBytes_35 : decode prog_11_method_49_code 35 = .ok (.iload_n 3, 1) := by decide +kernel
theorem d_Mo_blockBytes_36 : decode prog_11_method_49_code 36 = .ok (.iadd, 1) := by decide +kernel
theorem d_Mo_blockBytes_37 : decode prog_11_method_49_code 37 = .ok (.iaload, 1) := by decide +kernel
theorem d_Mo_blockBytes_38 : decode prog_11_method_49_code 38 = .ok (.istore 4, 2) := by decide +kernel
theorem d_Mo_blockBytes_40 : decode prog_11_method_49_code 40 = .ok (.iload_n 2, 1) := by decide +kernel
theorem d_Mo_blockBytes_41 : decode prog_11_method_49_code 41 = .ok (.iload 4, 2) := by decide +kernel
theorem d_Mo_blockBytes_43 : decode prog_11_method_49_code 43 = .ok (.iadd, 1) := by decide +kernel
theorem d_Mo_blockBytes_44 : decode prog_11_method_49_code 44 = .ok (.istore_n 2, 1) := by decide +kernel
theorem d_Mo_blockBytes_45 : decode prog_11_method_49_code 45 = .ok (.iload_n 3, 1) := by decide +kernel
theorem d_Mo_blockBytes_46 : decode prog_11_method_49_code 46 = .ok (.iconst 1, 1) := by decide +kernel
theorem d_Mo_blockBytes_47 : decode prog_11_method_49_code 47 = .ok (.iadd, 1) := by decide +kernel
theorem d_Mo_blockBytes_48 : decode prog_11_method_49_code 48 = .ok (.aload_n 0, 1) := by decide +kernel
theorem d_Mo_blockBytes_49 : decode prog_11_method_49_code 49 = .ok (.getfield 20, 3) := by decide +kernel
theorem d_Mo_blockBytes_52 : decode prog_11_method_49_code 52 = .ok (.iload_n 1, 1) := by decide +kernel
theorem d_Mo_blockBytes_53 : decode prog_11_method_49_code 53 = .ok (.iaload, 1) := by decide +kernel
theorem d_Mo_blockBytes_54 : decode prog_11_method_49_code 54 = .ok (.if_icmp .ge 24, 3) := by decide +kernel
theorem d_Mo_blockBytes_57 : decode prog_11_method_49_code 57 = .ok (.aload_n 0, 1) := by decide +kernel
theorem d_Mo_blockBytes_58 : decode prog_11_method_49_code 58 = .ok (.getfield 36, 3) := by decide +kernel
theorem d_Mo_blockBytes_61 : decode prog_11_method_49_code 61 = .ok (.iload_n 1, 1) := by decide +kernel
theorem d_Mo_blockBytes_62 : decode prog_11_method_49_code 62 = .ok (.iaload, 1) := by decide +kernel
theorem d_Mo_blockBytes_63 : decode prog_11_method_49_code 63 = .ok (.iconst 1, 1) := by decide +kernel
theorem d_Mo_blockBytes_64 : decode prog_11_method_49_code 64 = .ok (.if_icmp .ne 14, 3) := by decide +kernel
theorem d_Mo_blockBytes_67 : decode prog_11_method_49_code 67 = .ok (.iload_n 2, 1) := by decide +kernel
theorem d_Mo_blockBytes_68 : decode prog_11_method_49_code 68 = .ok (.iload 4, 2) := by decide +kernel
theorem d_Mo_blockBytes_70 : decode prog_11_method_49_code 70 = .ok (.sipush 255, 3) := by decide +kernel
theorem d_Mo_blockBytes_73 : decode prog_11_method_49_code 73 = .ok (.idiv, 1) := by decide +kernel
theorem d_Mo_blockBytes_74 : decode prog_11_method_49_code 74 = .ok (.iadd, 1) := by decide +kernel
theorem d_Mo_blockBytes_75 : decode prog_11_method_49_code 75 = .ok (.iconst 1, 1) := by decide +kernel
theorem d_Mo_blockBytes_76 : decode prog_11_method_49_code 76 = .ok (.iadd, 1) := by decide +kernel
theorem d_Mo_blockBytes_77 : decode prog_11_method_49_code 77 = .ok (.istore_n 2, 1) := by decide +kernel
theorem d_Mo_blockBytes_78 : decode prog_11_method_49_code 78 = .ok (.iload_n 3, 1) := by decide +kernel
theorem d_Mo_blockBytes_79 : decode prog_11_method_49_code 79 = .ok (.iconst 1, 1) := by decide +kernel
theorem d_Mo_blockBytes_80 : decode prog_11_method_49_code 80 = .ok (.iadd, 1) := by decide +kernel
theorem d_Mo_blockBytes_81 : decode prog_11_method_49_code 81 = .ok (.aload_n 0, 1) := by decide +kernel
theorem d_Mo_blockBytes_82 : decode prog_11_method_49_code 82 = .ok (.getfield 20, 3) := by decide +kernel
theorem d_Mo_blockBytes_85 : decode prog_11_method_49_code 85 = .ok (.iload_n 1, 1) := by decide +kernel
theorem d_Mo_blockBytes_86 : decode prog_11_method_49_code 86 = .ok (.iaload, 1) := by decide +kernel
theorem d_Mo_blockBytes_87 : decode prog_11_method_49_code 87 = .ok (.if_icmp .ge 52, 3) := by decide +kernel
theorem d_Mo_blockBytes_90 : decode prog_11_method_49_code 90 = .ok (.aload_n 0, 1) := by decide +kernel
theorem d_Mo_blockBytes_91 : decode prog_11_method_49_code 91 = .ok (.getfield 36, 3) := by decide +kernel
theorem d_Mo_blockBytes_94 : decode prog_11_method_49_code 94 = .ok (.iload_n 1, 1) := by decide +kernel
theorem d_Mo_blockBytes_95 : decode prog_11_method_49_code 95 = .ok (.iaload, 1) := by decide +kernel
theorem d_Mo_blockBytes_96 : decode prog_11_method_49_code 96 = .ok (.iconst 3, 1) := by decide +kernel
theorem d_Mo_blockBytes_97 : decode prog_11_method_49_code 97 = .ok (.if_icmp .ne 42, 3) := by decide +kernel
theorem d_Mo_blockBytes_100 : decode prog_11_method_49_code 100 = .ok (.iload_n 3, 1) := by decide +kernel
theorem d_Mo_blockBytes_101 : decode prog_11_method_49_code 101 = .ok (.ifCond .ne 12, 3) := by decide +kernel
theorem d_Mo_blockBytes_104 : decode prog_11_method_49_code 104 = .ok (.iload 4, 2) := by decide +kernel
theorem d_Mo_blockBytes_106 : decode prog_11_method_49_code 106 = .ok (.i2l, 1) := by decide +kernel
theorem d_Mo_blockBytes_107 : decode prog_11_method_49_code 107 = .ok (.invokestatic 223, 3) := by decide +kernel
theorem d_Mo_blockBytes_110 : decode prog_11_method_49_code 110 = .ok (.goto 22, 3) := by decide +kernel
theorem d_Mo_blockBytes_113 : decode prog_11_method_49_code 113 = .ok (.iload 4, 2) := by decide +kernel
theorem d_Mo_blockBytes_115 : decode prog_11_method_49_code 115 = .ok (.aload_n 0, 1) := by decide +kernel
theorem d_Mo_blockBytes_116 : decode prog_11_method_49_code 116 = .ok (.getfield 39, 3) := by decide +kernel
theorem d_Mo_blockBytes_119 : decode prog_11_method_49_code 119 = .ok (.bipush 8, 2) := by decide +kernel
theorem d_Mo_blockBytes_121 : decode prog_11_method_49_code 121 = .ok (.iload_n 1, 1) := by decide +kernel
theorem d_Mo_blockBytes_122 : decode prog_11_method_49_code 122 = .ok (.imul, 1) := by decide +kernel
theorem d_Mo_blockBytes_123 : decode prog_11_method_49_code 123 = .ok (.iload_n 3, 1) := by decide +kernel
theorem d_Mo_blockBytes_124 : decode prog_11_method_49_code 124 = .ok (.iadd, 1) := by decide +kernel
theorem d_Mo_blockBytes_125 : decode prog_11_method_49_code 125 = .ok (.iconst 1, 1) := by decide +kernel
theorem d_Mo_blockBytes_126 : decode prog_11_method_49_code 126 = .ok (.isub, 1) := by decide +kernel
theorem d_Mo_blockBytes_127 : decode prog_11_method_49_code 127 = .ok (.iaload, 1) := by decide +kernel
theorem d_Mo_blockBytes_128 : decode prog_11_method_49_code 128 = .ok (.isub, 1) := by decide +kernel
theorem d_Mo_blockBytes_129 : decode prog_11_method_49_code 129 = .ok (.invokestatic 227, 3) := by decide +kernel
theorem d_Mo_blockBytes_132 : decode prog_11_method_49_code 132 = .ok (.istore 5, 2) := by decide +kernel
theorem d_Mo_blockBytes_134 : decode prog_11_method_49_code 134 = .ok (.iload_n 2, 1) := by decide +kernel
theorem d_Mo_blockBytes_135 : decode prog_11_method_49_code 135 = .ok (.iload 5, 2) := by decide +kernel
theorem d_Mo_blockBytes_137 : decode prog_11_method_49_code 137 = .ok (.iadd, 1) := by decide +kernel
theorem d_Mo_blockBytes_138 : decode prog_11_method_49_code 138 = .ok (.istore_n 2, 1) := by decide +kernel
theorem d_Mo_blockBytes_139 : decode prog_11_method_49_code 139 = .ok (.iinc 3 1, 3) := by decide +kernel
theorem d_Mo_blockBytes_142 : decode prog_11_method_49_code 142 = .ok (.goto (-125), 3) := by decide +kernel
theorem d_Mo_blockBytes_145 : decode prog_11_method_49_code 145 = .ok (.iload_n 2, 1) := by decide +kernel
theorem d_Mo_blockBytes_146 : decode prog_11_method_49_code 146 = .ok (.ireturn, 1) := by decide +kernel
theorem d_Mo_numberBytes_0 : decode prog_11_method_50_code 0 = .ok (.iconst 1, 1) := by decide +kernel
theorem d_Mo_numberBytes_1 : decode prog_11_method_50_code 1 = .ok (.istore_n 2, 1) := by decide +kernel
theorem d_Mo_numberBytes_2 : decode prog_11_method_50_code 2 = .ok (.iload_n 2, 1) := by decide +kernel
theorem d_Mo_numberBytes_3 : decode prog_11_method_50_code 3 = .ok (.bipush 8, 2) := by decide +kernel
theorem d_Mo_numberBytes_5 : decode prog_11_method_50_code 5 = .ok (.if_icmp .ge 20, 3) := by decide +kernel
theorem d_Mo_numberBytes_8 : decode prog_11_method_50_code 8 = .ok (.lload_n 0, 1) := by decide +kernel
theorem d_Mo_numberBytes_9 : decode prog_11_method_50_code 9 = .ok (.bipush 8, 2) := by decide +kernel
theorem d_Mo_numberBytes_11 : decode prog_11_method_50_code 11 = .ok (.iload_n 2, 1) := by decide +kernel
theorem d_Mo_numberBytes_12 : decode prog_11_method_50_code 12 = .ok (.imul, 1) := by decide +kernel
theorem d_Mo_numberBytes_13 : decode prog_11_method_50_code 13 = .ok (.lushr, 1) := by decide +kernel
theorem d_Mo_numberBytes_14 : decode prog_11_method_50_code 14 = .ok (.lconst 0, 1) := by decide +kernel
theorem d_Mo_numberBytes_15 : decode prog_11_method_50_code 15 = .ok (.lcmp, 1) := by decide +kernel
theorem d_Mo_numberBytes_16 : decode prog_11_method_50_code 16 = .ok (.ifCond .eq 9, 3) := by decide +kernel
theorem d_Mo_numberBytes_19 : decode prog_11_method_50_code 19 = .ok (.iinc 2 1, 3) := by decide +kernel
theorem d_Mo_numberBytes_22 : decode prog_11_method_50_code 22 = .ok (.goto (-20), 3) := by decide +kernel
theorem d_Mo_numberBytes_25 : decode prog_11_method_50_code 25 = .ok (.iload_n 2, 1) := by decide +kernel
theorem d_Mo_numberBytes_26 : decode prog_11_method_50_code 26 = .ok (.ireturn, 1) := by decide +kernel
theorem d_Mo_isLive_0 : decode prog_11_method_51_code 0 = .ok (.iload_n 2, 1) := by decide +kernel
theorem d_Mo_isLive_1 : decode prog_11_method_51_code 1 = .ok (.ifCond .eq 29, 3) := by decide +kernel
theorem d_Mo_isLive_4 : decode prog_11_method_51_code 4 = .ok (.aload_n 0, 1) := by decide +kernel
theorem d_Mo_isLive_5 : decode prog_11_method_51_code 5 = .ok (.getfield 7, 3) := by decide +kernel
theorem d_Mo_isLive_8 : decode prog_11_method_51_code 8 = .ok (.iload_n 1, 1) := by decide +kernel
theorem d_Mo_isLive_9 : decode prog_11_method_51_code 9 = .ok (.iaload, 1) := by decide +kernel
theorem d_Mo_isLive_10 : decode prog_11_method_51_code 10 = .ok (.ldc 80, 2) := by decide +kernel
theorem d_Mo_isLive_12 : decode prog_11_method_51_code 12 = .ok (.if_icmp .eq 14, 3) := by decide +kernel
theorem d_Mo_isLive_15 : decode prog_11_method_51_code 15 = .ok (.aload_n 0, 1) := by decide +kernel
theorem d_Mo_isLive_16 : decode prog_11_method_51_code 16 = .ok (.getfield 7, 3) := by decide +kernel
theorem d_Mo_isLive_19 : decode prog_11_method_51_code 19 = .ok (.iload_n 1, 1) := by decide +kernel
theorem d_Mo_isLive_20 : decode prog_11_method_51_code 20 = .ok (.iaload, 1) := by decide +kernel
theorem d_Mo_isLive_21 : decode prog_11_method_51_code 21 = .ok (.ldc 81, 2) := by decide +kernel
theorem d_Mo_isLive_23 : decode prog_11_method_51_code 23 = .ok (.if_icmp .ne 7, 3) := by decide +kernel
theorem d_Mo_isLive_26 : decode prog_11_method_51_code 26 = .ok (.iconst 1, 1) := by decide +kernel
theorem d_Mo_isLive_27 : decode prog_11_method_51_code 27 = .ok (.goto 4, 3) := by decide +kernel
theorem d_Mo_isLive_30 : decode prog_11_method_51_code 30 = .ok (.iconst 0, 1) := by decide +kernel
theorem d_Mo_isLive_31 : decode prog_11_method_51_code 31 = .ok (.ireturn, 1) := by decide +kernel
theorem d_Mo_measure_0 : decode prog_11_method_52_code 0 = .ok (.aload_n 0, 1) := by decide +kernel
theorem d_Mo_measure_1 : decode prog_11_method_52_code 1 = .ok (.getfield 86, 3) := by decide +kernel
theorem d_Mo_measure_4 : decode prog_11_method_52_code 4 = .ok (.iconst 1, 1) := by decide +kernel
theorem d_Mo_measure_5 : decode prog_11_method_52_code 5 = .ok (.isub, 1) := by decide +kernel
theorem d_Mo_measure_6 : decode prog_11_method_52_code 6 = .ok (.istore_n 2, 1) := by decide +kernel
theorem d_Mo_measure_7 : decode prog_11_method_52_code 7 = .ok (.iload_n 2, 1) := by decide +kernel
theorem d_Mo_measure_8 : decode prog_11_method_52_code 8 = .ok (.ifCond .lt 170, 3) := by decide +kernel
theorem d_Mo_measure_11 : decode prog_11_method_52_code 11 = .ok (.aload_n 0, 1) := by decide +kernel
theorem d_Mo_measure_12 : decode prog_11_method_52_code 12 = .ok (.getfield 7, 3) := by decide +kernel
theorem d_Mo_measure_15 : decode prog_11_method_52_code 15 = .ok (.iload_n 2, 1) := by decide +kernel
theorem d_Mo_measure_16 : decode prog_11_method_52_code 16 = .ok (.iaload, 1) := by decide +kernel
theorem d_Mo_measure_17 : decode prog_11_method_52_code 17 = .ok (.invokestatic 82, 3) := by decide +kernel
theorem d_Mo_measure_20 : decode prog_11_method_52_code 20 = .ok (.istore_n 3, 1) := by decide +kernel
theorem d_Mo_measure_21 : decode prog_11_method_52_code 21 = .ok (.iload_n 3, 1) := by decide +kernel
theorem d_Mo_measure_22 : decode prog_11_method_52_code 22 = .ok (.iconst 1, 1) := by decide +kernel
theorem d_Mo_measure_23 : decode prog_11_method_52_code 23 = .ok (.if_icmp .ne 15, 3) := by decide +kernel
theorem d_Mo_measure_26 : decode prog_11_method_52_code 26 = .ok (.aload_n 0, 1) := by decide +kernel
theorem d_Mo_measure_27 : decode prog_11_method_52_code 27 = .ok (.getfield 16, 3) := by decide +kernel
theorem d_Mo_measure_30 : decode prog_11_method_52_code 30 = .ok (.iload_n 2, 1) := by decide +kernel
theorem d_Mo_measure_31 : decode prog_11_method_52_code 31 = .ok (.laload, 1) := by decide +kernel
theorem d_Mo_measure_32 : decode prog_11_method_52_code 32 = .ok (.invokestatic 230, 3) := by decide +kernel
theorem d_Mo_measure_35 : decode prog_11_method_52_code 35 = .ok (.goto 31, 3) := by decide +kernel
theorem d_Mo_measure_38 : decode prog_11_method_52_code 38 = .ok (.iload_n 3, 1) := by decide +kernel
theorem d_Mo_measure_39 : decode prog_11_method_52_code 39 = .ok (.iconst 4, 1) := by decide +kernel
theorem d_Mo_measure_40 : decode prog_11_method_52_code 40 = .ok (.if_icmp .ne 7, 3) := by decide +kernel
theorem d_Mo_measure_43 : decode prog_11_method_52_code 43 = .ok (.iconst 4, 1) := by decide +kernel
theorem d_Mo_measure_44 : decode prog_11_method_52_code 44 = .ok (.goto 22, 3) := by decide +kernel
theorem d_Mo_measure_47 : decode prog_11_method_52_code 47 = .ok (.iload_n 3, 1) := by decide +kernel
theorem d_Mo_measure_48 : decode prog_11_method_52_code 48 = .ok (.iconst 3, 1) := by decide +kernel
theorem d_Mo_measure_49 : decode prog_11_method_52_code 49 = .ok (.if_icmp .ne 11, 3) := by decide +kernel
theorem d_Mo_measure_52 : decode prog_11_method_52_code 52 = .ok (.aload_n 0, 1) := by decide +kernel
theorem d_Mo_measure_53 : decode prog_11_method_52_code 53 = .ok (.iload_n 2, 1) := by decide +kernel
theorem d_Mo_measure_54 : decode prog_11_method_52_code 54 = .ok (.invokevirtual 233, 3) := by decide +kernel
theorem d_Mo_measure_57 : decode prog_11_method_52_code 57 = .ok (.goto 9, 3) := by decide +kernel
theorem d_Mo_measure_60 : decode prog_11_method_52_code 60 = .ok (.aload_n 0, 1) := by decide +kernel
theorem d_Mo_measure_61 : decode prog_11_method_52_code 61 = .ok (.getfield 20, 3) := by decide +kernel
theorem d_Mo_measure_64 : decode prog_11_method_52_code 64 = .ok (.iload_n 2, 1) := by decide +kernel
theorem d_Mo_measure_65 : decode prog_11_method_52_code 65 = .ok (.iaload, 1) := by decide +kernel
theorem d_Mo_measure_66 : decode prog_11_method_52_code 66 = .ok (.istore 4, 2) := by decide +kernel
theorem d_Mo_measure_68 : decode prog_11_method_52_code 68 = .ok (.iload_n 3, 1) := by decide +kernel
theorem d_Mo_measure_69 : decode prog_11_method_52_code 69 = .ok (.ifCond .ne 95, 3) := by decide +kernel
theorem d_Mo_measure_72 : decode prog_11_method_52_code 72 = .ok (.iconst 0, 1) := by decide +kernel
theorem d_Mo_measure_73 : decode prog_11_method_52_code 73 = .ok (.istore 4, 2) := by decide +kernel
theorem d_Mo_measure_75 : decode prog_11_method_52_code 75 = .ok (.iload_n 2, 1) := by decide +kernel
theorem d_Mo_measure_76 : decode prog_11_method_52_code 76 = .ok (.iconst 1, 1) := by decide +kernel
theorem d_Mo_measure_77 : decode prog_11_method_52_code 77 = .ok (.iadd, 1) := by decide +kernel
theorem d_Mo_measure_78 : decode prog_11_method_52_code 78 = .ok (.istore 5, 2) := by decide +kernel
theorem d_Mo_measure_80 : decode prog_11_method_52_code 80 = .ok (.iload 5, 2) := by decide +kernel
theorem d_Mo_measure_82 : decode prog_11_method_52_code 82 = .ok (.aload_n 0, 1) := by decide +kernel
theorem d_Mo_measure_83 : decode prog_11_method_52_code 83 = .ok (.getfield 86, 3) := by decide +kernel
theorem d_Mo_measure_86 : decode prog_11_method_52_code 86 = .ok (.if_icmp .ge 78, 3) := by decide +kernel
theorem d_Mo_measure_89 : decode prog_11_method_52_code 89 = .ok (.aload_n 0, 1) := by decide +kernel
theorem d_Mo_measure_90 : decode prog_11_method_52_code 90 = .ok (.getfield 7, 3) := by decide +kernel
theorem d_Mo_measure_93 : decode prog_11_method_52_code 93 = .ok (.iload 5, 2) := by decide +kernel
theorem d_Mo_measure_95 : decode prog_11_method_52_code 95 = .ok (.iaload, 1) := by decide +kernel
theorem d_Mo_measure_96 : decode prog_11_method_52_code 96 = .ok (.invokestatic 236, 3) := by decide +kernel
theorem d_Mo_measure_99 : decode prog_11_method_52_code 99 = .ok (.aload_n 0, 1) := by decide +kernel
theorem d_Mo_measure_100 : decode prog_11_method_52_code 100 = .ok (.iload 5, 2) := by decide +kernel
theorem d_Mo_measure_102 : decode prog_11_method_52_code 102 = .ok (.iload_n 1, 1) := by decide +kernel
theorem d_Mo_measure_103 : decode prog_11_method_52_code 103 = .ok (.invokevirtual 239, 3) := by decide +kernel
theorem d_Mo_measure_106 : decode prog_11_method_52_code 106 = .ok (.ifCond .eq 7, 3) := by decide +kernel
theorem d_Mo_measure_109 : decode prog_11_method_52_code 109 = .ok (.iconst 1, 1) := by decide +kernel
theorem d_Mo_measure_110 : decode prog_11_method_52_code 110 = .ok (.goto 14, 3) := by decide +kernel
theorem d_Mo_measure_113 : decode prog_11_method_52_code 113 = .ok (.aload_n 0, 1) := by decide +kernel
theorem d_Mo_measure_114 : decode prog_11_method_52_code 114 = .ok (.getfield 73, 3) := by decide +kernel
theorem d_Mo_measure_117 : decode prog_11_method_52_code 117 = .ok (.iload 5, 2) := by decide +kernel
theorem d_Mo_measure_119 : decode prog_11_method_52_code 119 = .ok (.iaload, 1) := by decide +kernel
theorem d_Mo_measure_120 : decode prog_11_method_52_code 120 = .ok (.i2l, 1) := by decide +kernel
theorem d_Mo_measure_121 : decode prog_11_method_52_code 121 = .ok (.invokestatic 223, 3) := by decide +kernel
theorem d_Mo_measure_124 : decode prog_11_method_52_code 124 = .ok (.iadd, 1) := by decide +kernel
theorem d_Mo_measure_125 : decode prog_11_method_52_code 125 = .ok (.istore 6, 2) := by decide +kernel
theorem d_Mo_measure_127 : decode prog_11_method_52_code 127 = .ok (.aload_n 0, 1) := by decide +kernel
theorem d_Mo_measure_128 : decode prog_11_method_52_code 128 = .ok (.getfield 13, 3) := by decide +kernel
theorem d_Mo_measure_131 : decode prog_11_method_52_code 131 = .ok (.iload 5, 2) := by decide +kernel
theorem d_Mo_measure_133 : decode prog_11_method_52_code 133 = .ok (.iaload, 1) := by decide +kernel
theorem d_Mo_measure_134 : decode prog_11_method_52_code 134 = .ok (.iload_n 2, 1) := by decide +kernel
theorem d_Mo_measure_135 : decode prog_11_method_52_code 135 = .ok (.if_icmp .ne 19, 3) := by decide +kernel
theorem d_Mo_measure_138 : decode prog_11_method_52_code 138 = .ok (.iload 4, 2) := by decide +kernel
theorem d_Mo_measure_140 : decode prog_11_method_52_code 140 = .ok (.iload 6, 2) := by decide +kernel
theorem d_Mo_measure_142 : decode prog_11_method_52_code 142 = .ok (.iadd, 1) := by decide +kernel
theorem d_Mo_measure_143 : decode prog_11_method_52_code 143 = .ok (.aload_n 0, 1) := by decide +kernel
theorem d_Mo_measure_144 : decode prog_11_method_52_code 144 = .ok (.getfield 73, 3) := by decide +kernel
theorem d_Mo_measure_147 : decode prog_11_method_52_code 147 = .ok (.iload 5, 2) := by decide +kernel
theorem d_Mo_measure_149 : decode prog_11_method_52_code 149 = .ok (.iaload, 1) := by decide +kernel
theorem d_Mo_measure_150 : decode prog_11_method_52_code 150 = .ok (.iadd, 1) := by decide +kernel
theorem d_Mo_measure_151 : decode prog_11_method_52_code 151 = .ok (.goto 5, 3) := by decide +kernel
theorem d_Mo_measure_154 : decode prog_11_method_52_code 154 = .ok (.iload 4, 2) := by decide +kernel
theorem d_Mo_measure_156 : decode prog_11_method_52_code 156 = .ok (.istore 4, 2) := by decide +kernel
theorem d_Mo_measure_158 : decode prog_11_method_52_code 158 = .ok (.iinc 5 1, 3) := by decide +kernel
theorem d_Mo_measure_161 : decode prog_11_method_52_code 161 = .ok (.goto (-81), 3) := by decide +kernel
theorem d_Mo_measure_164 : decode prog_11_method_52_code 164 = .ok (.aload_n 0, 1) := by decide +kernel
theorem d_Mo_measure_165 : decode prog_11_method_52_code 165 = .ok (.getfield 73, 3) := by decide +kernel
theorem d_Mo_measure_168 : decode prog_11_method_52_code 168 = .ok (.iload_n 2, 1) := by decide +kernel
theorem d_Mo_measure_169 : decode prog_11_method_52_code 169 = .ok (.iload 4, 2) := by decide +kernel
theorem d_Mo_measure_171 : decode prog_11_method_52_code 171 = .ok (.iastore, 1) := by decide +kernel
theorem d_Mo_measure_172 : decode prog_11_method_52_code 172 = .ok (.iinc 2 (-1), 3) := by decide +kernel
theorem d_Mo_measure_175 : decode prog_11_method_52_code 175 = .ok (.goto (-168), 3) := by decide +kernel
theorem d_Mo_measure_178 : decode prog_11_method_52_code 178 = .ok (.return_, 1) := by decide +kernel
theorem d_Mo_put_0 : decode prog_11_method_53_code 0 = .ok (.aload_n 0, 1) := by decide +kernel
theorem d_Mo_put_1 : decode prog_11_method_53_code 1 = .ok (.getfield 57, 3) := by decide +kernel
theorem d_Mo_put_4 : decode prog_11_method_53_code 4 = .ok (.aload_n 0, 1) := by decide +kernel
theorem d_Mo_put_5 : decode prog_11_method_53_code 5 = .ok (.getfield 112, 3) := by decide +kernel
theorem d_Mo_put_8 : decode prog_11_method_53_code 8 = .ok (.iload_n 1, 1) := by decide +kernel
theorem d_Mo_put_9 : decode prog_11_method_53_code 9 = .ok (.iastore, 1) := by decide +kernel
theorem d_Mo_put_10 : decode prog_11_method_53_code 10 = .ok (.aload_n 0, 1) := by decide +kernel
theorem d_Mo_put_11 : decode prog_11_method_53_code 11 = .ok (.dup, 1) := by decide +kernel
theorem d_Mo_put_12 : decode prog_11_method_53_code 12 = .ok (.getfield 112, 3) := by decide +kernel
theorem d_Mo_put_15 : decode prog_11_method_53_code 15 = .ok (.iconst 1, 1) := by decide +kernel
theorem d_Mo_put_16 : decode prog_11_method_53_code 16 = .ok (.iadd, 1) := by decide +kernel
theorem d_Mo_put_17 : decode prog_11_method_53_code 17 = .ok (.putfield 112, 3) := by decide +kernel
theorem d_Mo_put_20 : decode prog_11_method_53_code 20 = .ok (.return_, 1) := by decide +kernel
theorem d_Mo_putBytes_0 : decode prog_11_method_54_code 0 = .ok (.iload_n 3, 1) := by decide +kernel
theorem d_Mo_putBytes_1 : decode prog_11_method_54_code 1 = .ok (.iconst 1, 1) := by decide +kernel
theorem d_Mo_putBytes_2 : decode prog_11_method_54_code 2 = .ok (.isub, 1) := by decide +kernel
theorem d_Mo_putBytes_3 : decode prog_11_method_54_code 3 = .ok (.istore 4, 2) := by decide +kernel
theorem d_Mo_putBytes_5 : decode prog_11_method_54_code 5 = .ok (.iload 4, 2) := by decide +kernel
theorem d_Mo_putBytes_7 : decode prog_11_method_54_code 7 = .ok (.ifCond .lt 25, 3) := by decide +kernel
theorem d_Mo_putBytes_10 : decode prog_11_method_54_code 10 = .ok (.aload_n 0, 1) := by decide +kernel
theorem d_Mo_putBytes_11 : decode prog_11_method_54_code 11 = .ok (.lload_n 1, 1) := by decide +kernel
theorem d_Mo_putBytes_12 : decode prog_11_method_54_code 12 = .ok (.bipush 8, 2) := by decide +kernel
theorem d_Mo_putBytes_14 : decode prog_11_method_54_code 14 = .ok (.iload 4, 2) := by decide +kernel
theorem d_Mo_putBytes_16 : decode prog_11_method_54_code 16 = .ok (.imul, 1) := by decide +kernel
theorem d_Mo_putBytes_17 : decode prog_11_method_54_code 17 = .ok (.lshr, 1) := by decide +kernel
theorem d_Mo_putBytes_18 : decode prog_11_method_54_code 18 = .ok (.ldc2_w 110, 3) := by decide +kernel
theorem d_Mo_putBytes_21 : decode prog_11_method_54_code 21 = .ok (.land, 1) := by decide +kernel
theorem d_Mo_putBytes_22 : decode prog_11_method_54_code 22 = .ok (.l2i, 1) := by decide +kernel
theorem d_Mo_putBytes_23 : decode prog_11_method_54_code 23 = .ok (.invokevirtual 243, 3) := by decide +kernel
theorem d_Mo_putBytes_26 : decode prog_11_method_54_code 26 = .ok (.iinc 4 (-1), 3) := by decide +kernel
theorem d_Mo_putBytes_29 : decode prog_11_method_54_code 29 = .ok (.goto (-24), 3) := by decide +kernel
theorem d_Mo_putBytes_32 : decode prog_11_method_54_code 32 = .ok (.return_, 1) := by decide +kernel
theorem d_Mo_putVint_0 : decode prog_11_method_55_code 0 = .ok (.aload_n 0, 1) := by decide +kernel
theorem d_Mo_putVint_1 : decode prog_11_method_55_code 1 = .ok (.lload_n 1, 1) := by decide +kernel
theorem d_Mo_putVint_2 : decode prog_11_method_55_code 2 = .ok (.lconst 1, 1) := by decide +kernel
theorem d_Mo_putVint_3 : decode prog_11_method_55_code 3 = .ok (.bipush 7, 2) := by decide +kernel
theorem d_Mo_putVint_5 : decode prog_11_method_55_code 5 = .ok (.iload_n 3, 1) := by decide +kernel
theorem d_Mo_putVint_6 : decode prog_11_method_55_code 6 = .ok (.imul, 1) := by decide +kernel
theorem d_Mo_putVint_7 : decode prog_11_method_55_code 7 = .ok (.lshl, 1) := by decide +kernel
theorem d_Mo_putVint_8 : decode prog_11_method_55_code 8 = .ok (.lor, 1) := by decide +kernel
theorem d_Mo_putVint_9 : decode prog_11_method_55_code 9 = .ok (.iload_n 3, 1) := by decide +kernel
theorem d_Mo_putVint_10 : decode prog_11_method_55_code 10 = .ok (.invokevirtual 246, 3) := by decide +kernel
theorem d_Mo_putVint_13 : decode prog_11_method_55_code 13 = .ok (.return_, 1) := by decide +kernel
theorem d_Mo_putBlock_0 : decode prog_11_method_56_code 0 = .ok (.aload_n 0, 1) := by decide +kernel
theorem d_Mo_putBlock_1 : decode prog_11_method_56_code 1 = .ok (.getfield 20, 3) := by decide +kernel
theorem d_Mo_putBlock_4 : decode prog_11_method_56_code 4 = .ok (.iload_n 1, 1) := by decide +kernel
theorem d_Mo_putBlock_5 : decode prog_11_method_56_code 5 = .ok (.iaload, 1) := by decide +kernel
theorem d_Mo_putBlock_6 : decode prog_11_method_56_code 6 = .ok (.istore_n 2, 1) := by decide +kernel
theorem d_Mo_putBlock_7 : decode prog_11_method_56_code 7 = .ok (.aload_n 0, 1) := by decide +kernel
theorem d_Mo_putBlock_8 : decode prog_11_method_56_code 8 = .ok (.aload_n 0, 1) := by decide +kernel
theorem d_Mo_putBlock_9 : decode prog_11_method_56_code 9 = .ok (.getfield 26, 3) := by decide +kernel
theorem d_Mo_putBlock_12 : decode prog_11_method_56_code 12 = .ok (.iload_n 1, 1) := by decide +kernel
theorem d_Mo_putBlock_13 : decode prog_11_method_56_code 13 = .ok (.iaload, 1) := by decide +kernel
theorem d_Mo_putBlock_14 : decode prog_11_method_56_code 14 = .ok (.i2l, 1) := by decide +kernel
theorem d_Mo_putBlock_15 : decode prog_11_method_56_code 15 = .ok (.iconst 1, 1) := by decide +kernel
theorem d_Mo_putBlock_16 : decode prog_11_method_56_code 16 = .ok (.invokevirtual 250, 3) := by decide +kernel
theorem d_Mo_putBlock_19 : decode prog_11_method_56_code 19 = .ok (.aload_n 0, 1) := by decide +kernel
theorem d_Mo_putBlock_20 : decode prog_11_method_56_code 20 = .ok (.aload_n 0, 1) := by decide +kernel
theorem d_Mo_putBlock_21 : decode prog_11_method_56_code 21 = .ok (.getfield 29, 3) := by decide +kernel
theorem d_Mo_putBlock_24 : decode prog_11_method_56_code 24 = .ok (.iload_n 1, 1) := by decide +kernel
theorem d_Mo_putBlock_25 : decode prog_11_method_56_code 25 = .ok (.iaload, 1) := by decide +kernel
theorem d_Mo_putBlock_26 : decode prog_11_method_56_code 26 = .ok (.i2l, 1) := by decide +kernel
theorem d_Mo_putBlock_27 : decode prog_11_method_56_code 27 = .ok (.iconst 2, 1) := by decide +kernel
theorem d_Mo_putBlock_28 : decode prog_11_method_56_code 28 = .ok (.invokevirtual 246, 3) := by decide +kernel
theorem d_Mo_putBlock_31 : decode prog_11_method_56_code 31 = .ok (.aload_n 0, 1) := by decide +kernel
theorem d_Mo_putBlock_32 : decode prog_11_method_56_code 32 = .ok (.aload_n 0, 1) := by decide +kernel
theorem d_Mo_putBlock_33 : decode prog_11_method_56_code 33 = .ok (.getfield 32, 3) := by decide +kernel
theorem d_Mo_putBlock_36 : decode prog_11_method_56_code 36 = .ok (.iload_n 1, 1) := by decide +kernel
theorem d_Mo_putBlock_37 : decode prog_11_method_56_code 37 = .ok (.baload, 1) := by decide +kernel
theorem d_Mo_putBlock_38 : decode prog_11_method_56_code 38 = .ok (.ifCond .eq 9, 3) := by decide +kernel
theorem d_Mo_putBlock_41 : decode prog_11_method_56_code 41 = .ok (.sipush 128, 3) := by decide +kernel
theorem d_Mo_putBlock_44 : decode prog_11_method_56_code 44 = .ok (.goto 4, 3) := by decide +kernel
theorem d_Mo_putBlock_47 : decode prog_11_method_56_code 47 = .ok (.iconst 0, 1) := by decide +kernel
theorem d_Mo_putBlock_48 : decode prog_11_method_56_code 48 = .ok (.iconst 2, 1) := by decide +kernel
theorem d_Mo_putBlock_49 : decode prog_11_method_56_code 49 = .ok (.aload_n 0, 1) := by decide +kernel
theorem d_Mo_putBlock_50 : decode prog_11_method_56_code 50 = .ok (.getfield 36, 3) := by decide +kernel
theorem d_Mo_putBlock_53 : decode prog_11_method_56_code 53 = .ok (.iload_n 1, 1) := by decide +kernel
theorem d_Mo_putBlock_54 : decode prog_11_method_56_code 54 = .ok (.iaload, 1) := by decide +kernel
theorem d_Mo_putBlock_55 : decode prog_11_method_56_code 55 = .ok (.imul, 1) := by decide +kernel
theorem d_Mo_putBlock_56 : decode prog_11_method_56_code 56 = .ok (.iadd, 1) := by decide +kernel
theorem d_Mo_putBlock_57 : decode prog_11_method_56_code 57 = .ok (.invokevirtual 243, 3) := by decide +kernel
theorem d_Mo_putBlock_60 : decode prog_11_method_56_code 60 = .ok (.aload_n 0, 1) := by decide +kernel
theorem d_Mo_putBlock_61 : decode prog_11_method_56_code 61 = .ok (.getfield 36, 3) := by decide +kernel
theorem d_Mo_putBlock_64 : decode prog_11_method_56_code 64 = .ok (.iload_n 1, 1) := by decide +kernel
theorem d_Mo_putBlock_65 : decode prog_11_method_56_code 65 = .ok (.iaload, 1) := by decide +kernel
theorem d_Mo_putBlock_66 : decode prog_11_method_56_code 66 = .ok (.ifCond .le 10, 3) := by decide +kernel
theorem d_Mo_putBlock_69 : decode prog_11_method_56_code 69 = .ok (.aload_n 0, 1) := by decide +kernel
theorem d_Mo_putBlock_70 : decode prog_11_method_56_code 70 = .ok (.iload_n 2, 1) := by decide +kernel
theorem d_Mo_putBlock_71 : decode prog_11_method_56_code 71 = .ok (.iconst 1, 1) := by decide +kernel
theorem d_Mo_putBlock_72 : decode prog_11_method_56_code 72 = .ok (.isub, 1) := by decide +kernel
theorem d_Mo_putBlock_73 : decode prog_11_method_56_code 73 = .ok (.invokevirtual 243, 3) := by decide +kernel
theorem d_Mo_putBlock_76 : decode prog_11_method_56_code 76 = .ok (.iconst 0, 1) := by decide +kernel
theorem d_Mo_putBlock_77 : decode prog_11_method_56_code 77 = .ok (.istore_n 3, 1) := by decide +kernel
theorem d_Mo_putBlock_78 : decode prog_11_method_56_code 78 = .ok (.iload_n 3, 1) := by decide +kernel
theorem d_Mo_putBlock_79 : decode prog_11_method_56_code 79 = .ok (.iconst 1, 1) := by decide +kernel
theorem d_Mo_putBlock_80 : decode prog_11_method_56_code 80 = .ok (.iadd, 1) := by decide +kernel
theorem d_Mo_putBlock_81 : decode prog_11_method_56_code 81 = .ok (.iload_n 2, 1) := by decide +kernel
theorem d_Mo_putBlock_82 : decode prog_11_method_56_code 82 = .ok (.if_icmp .ge 165, 3) := by decide +kernel
theorem d_Mo_putBlock_85 : decode prog_11_method_56_code 85 = .ok (.aload_n 0, 1) := by decide +kernel
theorem d_Mo_putBlock_86 : decode prog_11_method_56_code 86 = .ok (.getfield 39, 3) := by decide +kernel
theorem d_Mo_putBlock_89 : decode prog_11_method_56_code 89 = .ok (.bipush 8, 2) := by decide +kernel
theorem d_Mo_putBlock_91 : decode prog_11_method_56_code 91 = .ok (.iload_n 1, 1) := by decide +kernel
theorem d_Mo_putBlock_92 : decode prog_11_method_56_code 92 = .ok (.imul, 1) := by decide +kernel
theorem d_Mo_putBlock_93 : decode prog_11_method_56_code 93 = .ok (.iload_n 3, 1) := by decide +kernel
theorem d_Mo_putBlock_94 : decode prog_11_method_56_code 94 = .ok (.iadd, 1) := by decide +kernel
theorem d_Mo_putBlock_95 : decode prog_11_method_56_code 95 = .ok (.iaload, 1) := by decide +kernel
theorem d_Mo_putBlock_96 : decode prog_11_method_56_code 96 = .ok (.istore 4, 2) := by decide +kernel
theorem d_Mo_putBlock_98 : decode prog_11_method_56_code 98 = .ok (.aload_n 0, 1) := by decide +kernel
theorem d_Mo_putBlock_99 : decode prog_11_method_56_code 99 = .ok (.getfield 36, 3) := by decide +kernel
theorem d_Mo_putBlock_102 : decode prog_11_method_56_code 102 = .ok (.iload_n 1, 1) := by decide +kernel
theorem d_Mo_putBlock_103 : decode prog_11_method_56_code 103 = .ok (.iaload, 1) := by decide +kernel
theorem d_Mo_putBlock_104 : decode prog_11_method_56_code 104 = .ok (.iconst 1, 1) := by decide +kernel
theorem d_Mo_putBlock_105 : decode prog_11_method_56_code 105 = .ok (.if_icmp .ne 46, 3) := by decide +kernel
theorem d_Mo_putBlock_108 : decode prog_11_method_56_code 108 = .ok (.iload 4, 2) := by decide +kernel
theorem d_Mo_putBlock_110 : decode prog_11_method_56_code 110 = .ok (.istore 5, 2) := by decide +kernel
theorem d_Mo_putBlock_112 : decode prog_11_method_56_code 112 = .ok (.iload 5, 2) := by decide +kernel
theorem d_Mo_putBlock_114 : decode prog_11_method_56_code 114 = .ok (.sipush 255, 3) := by decide +kernel
theorem d_Mo_putBlock_117 : decode prog_11_method_56_code 117 = .ok (.if_icmp .lt 21, 3) := by decide +kernel
theorem d_Mo_putBlock_120 : decode prog_11_method_56_code 120 = .ok (.aload_n 0, 1) := by decide +kernel
theorem d_Mo_putBlock_121 : decode prog_11_method_56_code 121 = .ok (.sipush 255, 3) := by decide +kernel
theorem d_Mo_putBlock_124 : decode prog_11_method_56_code 124 = .ok (.invokevirtual 243, 3) := by decide +kernel
theorem d_Mo_putBlock_127 : decode prog_11_method_56_code 127 = .ok (.iload 5, 2) := by decide +kernel
theorem d_Mo_putBlock_129 : decode prog_11_method_56_code 129 = .ok (.sipush 255, 3) := by decide +kernel
theorem d_Mo_putBlock_132 : decode prog_11_method_56_code 132 = .ok (.isub, 1) := by decide +kernel
theorem d_Mo_putBlock_133 : decode prog_11_method_56_code 133 = .ok (.istore 5, 2) := by decide +kernel
theorem d_Mo_putBlock_135 : decode prog_11_method_56_code 135 = .ok (.goto (-23), 3) := by decide +kernel
theorem d_Mo_putBlock_138 : decode prog_11_method_56_code 138 = .ok (.aload_n 0, 1) := by decide +kernel
theorem d_Mo_putBlock_139 : decode prog_11_method_56_code 139 = .ok (.iload 4, 2) := by decide +kernel
theorem d_Mo_putBlock_141 : decode prog_11_method_56_code 141 = .ok (.sipush 255, 3) := by decide +kernel
theorem d_Mo_putBlock_144 : decode prog_11_method_56_code 144 = .ok (.irem, 1) := by decide +kernel
theorem d_Mo_putBlock_145 : decode prog_11_method_56_code 145 = .ok (.invokevirtual 243, 3) := by decide +kernel
theorem d_Mo_putBlock_148 : decode prog_11_method_56_code 148 = .ok (.goto 93, 3) := by decide +kernel
theorem d_Mo_putBlock_151 : decode prog_11_method_56_code 151 = .ok (.aload_n 0, 1) := by decide +kernel
theorem d_Mo_putBlock_152 : decode prog_11_method_56_code 152 = .ok (.getfield 36, 3) := by decide +kernel
theorem d_Mo_putBlock_155 : decode prog_11_method_56_code 155 = .ok (.iload_n 1, 1) := by decide +kernel
theorem d_Mo_putBlock_156 : decode prog_11_method_56_code 156 = .ok (.iaload, 1) := by decide +kernel
theorem d_Mo_putBlock_157 : decode prog_11_method_56_code 157 = .ok (.iconst 3, 1) := by decide +kernel
theorem d_Mo_putBlock_158 : decode prog_11_method_56_code 158 = .ok (.if_icmp .ne 27, 3) := by decide +kernel
theorem d_Mo_putBlock_161 : decode prog_11_method_56_code 161 = .ok (.iload_n 3, 1) := by decide +kernel
theorem d_Mo_putBlock_162 : decode prog_11_method_56_code 162 = .ok (.ifCond .ne 23, 3) := by decide +kernel
theorem d_Mo_putBlock_165 : decode prog_11_method_56_code 165 = .ok (.iload 4, 2) := by decide +kernel
theorem d_Mo_putBlock_167 : decode prog_11_method_56_code 167 = .ok (.i2l, 1) := by decide +kernel
theorem d_Mo_putBlock_168 : decode prog_11_method_56_code 168 = .ok (.invokestatic 223, 3) := by decide +kernel
theorem d_Mo_putBlock_171 : decode prog_11_method_56_code 171 = .ok (.istore 5, 2) := by decide +kernel
theorem d_Mo_putBlock_173 : decode prog_11_method_56_code 173 = .ok (.aload_n 0, 1) := by decide +kernel
theorem d_Mo_putBlock_174 : decode prog_11_method_56_code 174 = .ok (.iload 4, 2) := by decide +kernel
theorem d_Mo_putBlock_176 : decode prog_11_method_56_code 176 = .ok (.i2l, 1) := by decide +kernel
theorem d_Mo_putBlock_177 : decode prog_11_method_56_code 177 = .ok (.iload 5, 2) := by decide +kernel
theorem d_Mo_putBlock_179 : decode prog_11_method_56_code 179 = .ok (.invokevirtual 250, 3) := by decide +kernel
theorem d_Mo_putBlock_182 : decode prog_11_method_56_code 182 = .ok (.goto 59, 3) := by decide +kernel
theorem d_Mo_putBlock_185 : decode prog_11_method_56_code 185 = .ok (.aload_n 0, 1) := by decide +kernel
theorem d_Mo_putBlock_186 : decode prog_11_method_56_code 186 = .ok (.getfield 36, 3) := by decide +kernel
theorem d_Mo_putBlock_189 : decode prog_11_method_56_code 189 = .ok (.iload_n 1, 1) := by decide +kernel
theorem d_Mo_putBlock_190 : decode prog_11_method_56_code 190 = .ok (.iaload, 1) := by decide +kernel
theorem d_Mo_putBlock_191 : decode prog_11_method_56_code 191 = .ok (.iconst 3, 1) := by decide +kernel
theorem d_Mo_putBlock_192 : decode prog_11_method_56_code 192 = .ok (.if_icmp .ne 49, 3) := by decide +kernel
theorem d_Mo_putBlock_195 : decode prog_11_method_56_code 195 = .ok (.iload 4, 2) := by decide +kernel
theorem d_Mo_putBlock_197 : decode prog_11_method_56_code 197 = .ok (.aload_n 0, 1) := by decide +kernel
theorem d_Mo_putBlock_198 : decode prog_11_method_56_code 198 = .ok (.getfield 39, 3) := by decide +kernel
theorem d_Mo_putBlock_201 : decode prog_11_method_56_code 201 = .ok (.bipush 8, 2) := by decide +kernel
theorem d_Mo_putBlock_203 : decode prog_11_method_56_code 203 = .ok (.iload_n 1, 1) := by decide +kernel
theorem d_Mo_putBlock_204 : decode prog_11_method_56_code 204 = .ok (.imul, 1) := by decide +kernel
theorem d_Mo_putBlock_205 : decode prog_11_method_56_code 205 = .ok (.iload_n 3, 1) := by decide +kernel
theorem d_Mo_putBlock_206 : decode prog_11_method_56_code 206 = .ok (.iadd, 1) := by decide +kernel
theorem d_Mo_putBlock_207 : decode prog_11_method_56_code 207 = .ok (.iconst 1, 1) := by decide +kernel
theorem d_Mo_putBlock_208 : decode prog_11_method_56_code 208 = .ok (.isub, 1) := by decide +kernel
theorem d_Mo_putBlock_209 : decode prog_11_method_56_code 209 = .ok (.iaload, 1) := by decide +kernel
theorem d_Mo_putBlock_210 : decode prog_11_method_56_code 210 = .ok (.isub, 1) := by decide +kernel
theorem d_Mo_putBlock_211 : decode prog_11_method_56_code 211 = .ok (.istore 5, 2) := by decide +kernel
theorem d_Mo_putBlock_213 : decode prog_11_method_56_code 213 = .ok (.iload 5, 2) := by decide +kernel
theorem d_Mo_putBlock_215 : decode prog_11_method_56_code 215 = .ok (.invokestatic 227, 3) := by decide +kernel
theorem d_Mo_putBlock_218 : decode prog_11_method_56_code 218 = .ok (.istore 6, 2) := by decide +kernel
theorem d_Mo_putBlock_220 : decode prog_11_method_56_code 220 = .ok (.aload_n 0, 1) := by decide +kernel
theorem d_Mo_putBlock_221 : decode prog_11_method_56_code 221 = .ok (.iload 5, 2) := by decide +kernel
theorem d_Mo_putBlock_223 : decode prog_11_method_56_code 223 = .ok (.i2l, 1) := by decide +kernel
theorem d_Mo_putBlock_224 : decode prog_11_method_56_code 224 = .ok (.lconst 1, 1) := by decide +kernel
theorem d_Mo_putBlock_225 : decode prog_11_method_56_code 225 = .ok (.bipush 7, 2) := by decide +kernel
theorem d_Mo_putBlock_227 : decode prog_11_method_56_code 227 = .ok (.iload 6, 2) := by decide +kernel
theorem d_Mo_putBlock_229 : decode prog_11_method_56_code 229 = .ok (.imul, 1) := by decide +kernel
theorem d_Mo_putBlock_230 : decode prog_11_method_56_code 230 = .ok (.iconst 1, 1) := by decide +kernel
theorem d_Mo_putBlock_231 : decode prog_11_method_56_code 231 = .ok (.isub, 1) := by decide +kernel
theorem d_Mo_putBlock_232 : decode prog_11_method_56_code 232 = .ok (.lshl, 1) := by decide +kernel
theorem d_Mo_putBlock_233 : decode prog_11_method_56_code 233 = .ok (.ladd, 1) := by decide +kernel
theorem d_Mo_putBlock_234 : decode prog_11_method_56_code 234 = .ok (.lconst 1, 1) := by decide +kernel
theorem d_Mo_putBlock_235 : decode prog_11_method_56_code 235 = .ok (.lsub, 1) := by decide +kernel
theorem d_Mo_putBlock_236 : decode prog_11_method_56_code 236 = .ok (.iload 6, 2) := by decide +kernel
theorem d_Mo_putBlock_238 : decode prog_11_method_56_code 238 = .ok (.invokevirtual 250, 3) := by decide +kernel
theorem d_Mo_putBlock_241 : decode prog_11_method_56_code 241 = .ok (.iinc 3 1, 3) := by decide +kernel
theorem d_Mo_putBlock_244 : decode prog_11_method_56_code 244 = .ok (.goto (-166), 3) := by decide +kernel
theorem d_Mo_putBlock_247 : decode prog_11_method_56_code 247 = .ok (.iconst 0, 1) := by decide +kernel
theorem d_Mo_putBlock_248 : decode prog_11_method_56_code 248 = .ok (.istore_n 3, 1) := by decide +kernel
theorem d_Mo_putBlock_249 : decode prog_11_method_56_code 249 = .ok (.iload_n 3, 1) := by decide +kernel
theorem d_Mo_putBlock_250 : decode prog_11_method_56_code 250 = .ok (.iload_n 2, 1) := by decide +kernel
theorem d_Mo_putBlock_251 : decode prog_11_method_56_code 251 = .ok (.if_icmp .ge 57, 3) := by decide +kernel
theorem d_Mo_putBlock_254 : decode prog_11_method_56_code 254 = .ok (.iconst 0, 1) := by decide +kernel
theorem d_Mo_putBlock_255 : decode prog_11_method_56_code 255 = .ok (.istore 4, 2) := by decide +kernel
theorem d_Mo_putBlock_257 : decode prog_11_method_56_code 257 = .ok (.iload 4, 2) := by decide +kernel
theorem d_Mo_putBlock_259 : decode prog_11_method_56_code 259 = .ok (.aload_n 0, 1) := by decide +kernel
theorem d_Mo_putBlock_260 : decode prog_11_method_56_code 260 = .ok (.getfield 39, 3) := by decide +kernel
theorem d_Mo_putBlock_263 : decode prog_11_method_56_code 263 = .ok (.bipush 8, 2) := by decide +kernel
theorem d_Mo_putBlock_265 : decode prog_11_method_56_code 265 = .ok (.iload_n 1, 1) := by decide +kernel
theorem d_Mo_putBlock_266 : decode prog_11_method_56_code 266 = .ok (.imul, 1) := by decide +kernel
theorem d_Mo_putBlock_267 : decode prog_11_method_56_code 267 = .ok (.iload_n 3, 1) := by decide +kernel
theorem d_Mo_putBlock_268 : decode prog_11_method_56_code 268 = .ok (.iadd, 1) := by decide +kernel
theorem d_Mo_putBlock_269 : decode prog_11_method_56_code 269 = .ok (.iaload, 1) := by decide +kernel
theorem d_Mo_putBlock_270 : decode prog_11_method_56_code 270 = .ok (.if_icmp .ge 32, 3) := by decide +kernel
theorem d_Mo_putBlock_273 : decode prog_11_method_56_code 273 = .ok (.aload_n 0, 1) := by decide +kernel
theorem d_Mo_putBlock_274 : decode prog_11_method_56_code 274 = .ok (.aload_n 0, 1) := by decide +kernel
theorem d_Mo_putBlock_275 : decode prog_11_method_56_code 275 = .ok (.getfield 45, 3) := by decide +kernel
theorem d_Mo_putBlock_278 : decode prog_11_method_56_code 278 = .ok (.aload_n 0, 1) := by decide +kernel
theorem d_Mo_putBlock_279 : decode prog_11_method_56_code 279 = .ok (.getfield 42, 3) := by decide +kernel
theorem d_Mo_putBlock_282 : decode prog_11_method_56_code 282 = .ok (.bipush 8, 2) := by decide +kernel
theorem d_Mo_putBlock_284 : decode prog_11_method_56_code 284 = .ok (.iload_n 1, 1) := by decide +kernel
theorem d_Mo_putBlock_285 : decode prog_11_method_56_code 285 = .ok (.imul, 1) := by decide +kernel
theorem d_Mo_putBlock_286 : decode prog_11_method_56_code 286 = .ok (.iload_n 3, 1) := by decide +kernel
theorem d_Mo_putBlock_287 : decode prog_11_method_56_code 287 = .ok (.iadd, 1) := by decide +kernel
theorem d_Mo_putBlock_288 : decode prog_11_method_56_code 288 = .ok (.iaload, 1) := by decide +kernel
theorem d_Mo_putBlock_289 : decode prog_11_method_56_code 289 = .ok (.iload 4, 2) := by decide +kernel
theorem d_Mo_putBlock_291 : decode prog_11_method_56_code 291 = .ok (.iadd, 1) := by decide +kernel
theorem d_Mo_putBlock_292 : decode prog_11_method_56_code 292 = .ok (.iaload, 1) := by decide +kernel
theorem d_Mo_putBlock_293 : decode prog_11_method_56_code 293 = .ok (.invokevirtual 243, 3) := by decide +kernel
theorem d_Mo_putBlock_296 : decode prog_11_method_56_code 296 = .ok (.iinc 4 1, 3) := by decide +kernel
theorem d_Mo_putBlock_299 : decode prog_11_method_56_code 299 = .ok (.goto (-42), 3) := by decide +kernel
theorem d_Mo_putBlock_302 : decode prog_11_method_56_code 302 = .ok (.iinc 3 1, 3) := by decide +kernel
theorem d_Mo_putBlock_305 : decode prog_11_method_56_code 305 = .ok (.goto (-56), 3) := by decide +kernel
theorem d_Mo_putBlock_308 : decode prog_11_method_56_code 308 = .ok (.return_, 1) := by decide +kernel
theorem d_Mo_putData_0 : decode prog_11_method_57_code 0 = .ok (.aload_n 0, 1) := by decide +kernel
theorem d_Mo_putData_1 : decode prog_11_method_57_code 1 = .ok (.getfield 7, 3) := by decide +kernel
theorem d_Mo_putData_4 : decode prog_11_method_57_code 4 = .ok (.iload_n 1, 1) := by decide +kernel
theorem d_Mo_putData_5 : decode prog_11_method_57_code 5 = .ok (.iaload, 1) := by decide +kernel
theorem d_Mo_putData_6 : decode prog_11_method_57_code 6 = .ok (.invokestatic 82, 3) := by decide +kernel
theorem d_Mo_putData_9 : decode prog_11_method_57_code 9 = .ok (.tableswitch 140 0 6 #[139, 43, 60, 94, 140, 140, 100], 43) := by decide +kernel
theorem d_Mo_putData_52 : decode prog_11_method_57_code 52 = .ok (.aload_n 0, 1) := by decide +kernel
theorem d_Mo_putData_53 : decode prog_11_method_57_code 53 = .ok (.aload_n 0, 1) := by decide +kernel
theorem d_Mo_putData_54 : decode prog_11_method_57_code 54 = .ok (.getfield 16, 3) := by decide +kernel
theorem d_Mo_putData_57 : decode prog_11_method_57_code 57 = .ok (.iload_n 1, 1) := by decide +kernel
theorem d_Mo_putData_58 : decode prog_11_method_57_code 58 = .ok (.laload, 1) := by decide +kernel
theorem d_Mo_putData_59 : decode prog_11_method_57_code 59 = .ok (.aload_n 0, 1) := by decide +kernel
theorem d_Mo_putData_60 : decode prog_11_method_57_code 60 = .ok (.getfield 73, 3) := by decide +kernel
theorem d_Mo_putData_63 : decode prog_11_method_57_code 63 = .ok (.iload_n 1, 1) := by decide +kernel
theorem d_Mo_putData_64 : decode prog_11_method_57_code 64 = .ok (.iaload, 1) := by decide +kernel
theorem d_Mo_putData_65 : decode prog_11_method_57_code 65 = .ok (.invokevirtual 246, 3) := by decide +kernel
theorem d_Mo_putData_68 : decode prog_11_method_57_code 68 = .ok (.return_, 1) := by decide +kernel
theorem d_Mo_putData_69 : decode prog_11_method_57_code 69 = .ok (.iconst 0, 1) := by decide +kernel
theorem d_Mo_putData_70 : decode prog_11_method_57_code 70 = .ok (.istore_n 2, 1) := by decide +kernel
theorem d_Mo_putData_71 : decode prog_11_method_57_code 71 = .ok (.iload_n 2, 1) := by decide +kernel
theorem d_Mo_putData_72 : decode prog_11_method_57_code 72 = .ok (.aload_n 0, 1) := by decide +kernel
theorem d_Mo_putData_73 : decode prog_11_method_57_code 73 = .ok (.getfield 20, 3) := by decide +kernel
theorem d_Mo_putData_76 : decode prog_11_method_57_code 76 = .ok (.iload_n 1, 1) := by decide +kernel
theorem d_Mo_putData_77 : decode prog_11_method_57_code 77 = .ok (.iaload, 1) := by decide +kernel
theorem d_Mo_putData_78 : decode prog_11_method_57_code 78 = .ok (.if_icmp .ge 24, 3) := by decide +kernel
theorem d_Mo_putData_81 : decode prog_11_method_57_code 81 = .ok (.aload_n 0, 1) := by decide +kernel
theorem d_Mo_putData_82 : decode prog_11_method_57_code 82 = .ok (.aload_n 0, 1) := by decide +kernel
theorem d_Mo_putData_83 : decode prog_11_method_57_code 83 = .ok (.getfield 23, 3) := by decide +kernel
theorem d_Mo_putData_86 : decode prog_11_method_57_code 86 = .ok (.bipush 16, 2) := by decide +kernel
theorem d_Mo_putData_88 : decode prog_11_method_57_code 88 = .ok (.iload_n 1, 1) := by decide +kernel
theorem d_Mo_putData_89 : decode prog_11_method_57_code 89 = .ok (.imul, 1) := by decide +kernel
theorem d_Mo_putData_90 : decode prog_11_method_57_code 90 = .ok (.iload_n 2, 1) := by decide +kernel
theorem d_Mo_putData_91 : decode prog_11_method_57_code 91 = .ok (.iadd, 1) := by decide +kernel
theorem d_Mo_putData_92 : decode prog_11_method_57_code 92 = .ok (.iaload, 1) := by decide +kernel
theorem d_Mo_putData_93 : decode prog_11_method_57_code 93 = .ok (.invokevirtual 243, 3) := by decide +kernel
theorem d_Mo_putData_96 : decode prog_11_method_57_code 96 = .ok (.iinc 2 1, 3) := by decide +kernel
theorem d_Mo_putData_99 : decode prog_11_method_57_code 99 = .ok (.goto (-28), 3) := by decide +kernel
theorem d_Mo_putData_102 : decode prog_11_method_57_code 102 = .ok (.return_, 1) := by decide +kernel
theorem d_Mo_putData_103 : decode prog_11_method_57_code 103 = .ok (.aload_n 0, 1) := by decide +kernel
theorem d_Mo_putData_104 : decode prog_11_method_57_code 104 = .ok (.iload_n 1, 1) := by decide +kernel
theorem d_Mo_putData_105 : decode prog_11_method_57_code 105 = .ok (.invokevirtual 253, 3) := by decide +kernel
theorem d_Mo_putData_108 : decode prog_11_method_57_code 108 = .ok (.return_, 1) := by decide +kernel
theorem d_Mo_putData_109 : decode prog_11_method_57_code 109 = .ok (.iconst 0, 1) := by decide +kernel
theorem d_Mo_putData_110 : decode prog_11_method_57_code 110 = .ok (.istore_n 2, 1) := by decide +kernel
theorem d_Mo_putData_111 : decode prog_11_method_57_code 111 = .ok (.iload_n 2, 1) := by decide +kernel
theorem d_Mo_putData_112 : decode prog_11_method_57_code 112 = .ok (.aload_n 0, 1) := by decide +kernel
theorem d_Mo_putData_113 : decode prog_11_method_57_code 113 = .ok (.getfield 20, 3) := by decide +kernel
theorem d_Mo_putData_116 : decode prog_11_method_57_code 116 = .ok (.iload_n 1, 1) := by decide +kernel
theorem d_Mo_putData_117 : decode prog_11_method_57_code 117 = .ok (.iaload, 1) := by decide +kernel
theorem d_Mo_putData_118 : decode prog_11_method_57_code 118 = .ok (.if_icmp .ge 29, 3) := by decide +kernel
theorem d_Mo_putData_121 : decode prog_11_method_57_code 121 = .ok (.aload_n 0, 1) := by decide +kernel
theorem d_Mo_putData_122 : decode prog_11_method_57_code 122 = .ok (.aload_n 0, 1) := by decide +kernel
theorem d_Mo_putData_123 : decode prog_11_method_57_code 123 = .ok (.getfield 45, 3) := by decide +kernel
theorem d_Mo_putData_126 : decode prog_11_method_57_code 126 = .ok (.aload_n 0, 1) := by decide +kernel
theorem d_Mo_putData_127 : decode prog_11_method_57_code 127 = .ok (.getfield 42, 3) := by decide +kernel
theorem d_Mo_putData_130 : decode prog_11_method_57_code 130 = .ok (.bipush 8, 2) := by decide +kernel
theorem d_Mo_putData_132 : decode prog_11_method_57_code 132 = .ok (.iload_n 1, 1) := by decide +kernel
theorem d_Mo_putData_133 : decode prog_11_method_57_code 133 = .ok (.imul, 1) := by decide +kernel
theorem d_Mo_putData_134 : decode prog_11_method_57_code 134 = .ok (.iaload, 1) := by decide +kernel
theorem d_Mo_putData_135 : decode prog_11_method_57_code 135 = .ok (.iload_n 2, 1) := by decide +kernel
theorem d_Mo_putData_136 : decode prog_11_method_57_code 136 = .ok (.iadd, 1) := by decide +kernel
theorem d_Mo_putData_137 : decode prog_11_method_57_code 137 = .ok (.iaload, 1) := by decide +kernel
theorem d_Mo_putData_138 : decode prog_11_method_57_code 138 = .ok (.invokevirtual 243, 3) := by decide +kernel
theorem d_Mo_putData_141 : decode prog_11_method_57_code 141 = .ok (.iinc 2 1, 3) := by decide +kernel
theorem d_Mo_putData_144 : decode prog_11_method_57_code 144 = .ok (.goto (-33), 3) := by decide +kernel
theorem d_Mo_putData_147 : decode prog_11_method_57_code 147 = .ok (.return_, 1) := by decide +kernel
theorem d_Mo_putData_148 : decode prog_11_method_57_code 148 = .ok (.return_, 1) := by decide +kernel
theorem d_Mo_putData_149 : decode prog_11_method_57_code 149 = .ok (.iconst 0, 1) := by decide +kernel
theorem d_Mo_putData_150 : decode prog_11_method_57_code 150 = .ok (.istore_n 2, 1) := by decide +kernel
theorem d_Mo_putData_151 : decode prog_11_method_57_code 151 = .ok (.iload_n 2, 1) := by decide +kernel
theorem d_Mo_putData_152 : decode prog_11_method_57_code 152 = .ok (.aload_n 0, 1) := by decide +kernel
theorem d_Mo_putData_153 : decode prog_11_method_57_code 153 = .ok (.getfield 73, 3) := by decide +kernel
theorem d_Mo_putData_156 : decode prog_11_method_57_code 156 = .ok (.iload_n 1, 1) := by decide +kernel
theorem d_Mo_putData_157 : decode prog_11_method_57_code 157 = .ok (.iaload, 1) := by decide +kernel
theorem d_Mo_putData_158 : decode prog_11_method_57_code 158 = .ok (.if_icmp .ge 14, 3) := by decide +kernel
theorem d_Mo_putData_161 : decode prog_11_method_57_code 161 = .ok (.aload_n 0, 1) := by decide +kernel
theorem d_Mo_putData_162 : decode prog_11_method_57_code 162 = .ok (.iconst 0, 1) := by decide +kernel
theorem d_Mo_putData_163 : decode prog_11_method_57_code 163 = .ok (.invokevirtual 243, 3) := by decide +kernel
theorem d_Mo_putData_166 : decode prog_11_method_57_code 166 = .ok (.iinc 2 1, 3) := by decide +kernel
theorem d_Mo_putData_169 : decode prog_11_method_57_code 169 = .ok (.goto (-18), 3) := by decide +kernel
theorem d_Mo_putData_172 : decode prog_11_method_57_code 172 = .ok (.return_, 1) := by decide +kernel
theorem d_Mo_fillSum_0 : decode prog_11_method_58_code 0 = .ok (.iconst (-1), 1) := by decide +kernel
theorem d_Mo_fillSum_1 : decode prog_11_method_58_code 1 = .ok (.istore_n 2, 1) := by decide +kernel
theorem d_Mo_fillSum_2 : decode prog_11_method_58_code 2 = .ok (.aload_n 0, 1) := by decide +kernel
theorem d_Mo_fillSum_3 : decode prog_11_method_58_code 3 = .ok (.getfield 76, 3) := by decide +kernel
theorem d_Mo_fillSum_6 : decode prog_11_method_58_code 6 = .ok (.aload_n 0, 1) := by decide +kernel
theorem d_Mo_fillSum_7 : decode prog_11_method_58_code 7 = .ok (.getfield 13, 3) := by decide +kernel
theorem d_Mo_fillSum_10 : decode prog_11_method_58_code 10 = .ok (.iload_n 1, 1) := by decide +kernel
theorem d_Mo_fillSum_11 : decode prog_11_method_58_code 11 = .ok (.iaload, 1) := by decide +kernel
theorem d_Mo_fillSum_12 : decode prog_11_method_58_code 12 = .ok (.iaload, 1) := by decide +kernel
theorem d_Mo_fillSum_13 : decode prog_11_method_58_code 13 = .ok (.aload_n 0, 1) := by decide +kernel
theorem d_Mo_fillSum_14 : decode prog_11_method_58_code 14 = .ok (.getfield 73, 3) := by decide +kernel
theorem d_Mo_fillSum_17 : decode prog_11_method_58_code 17 = .ok (.aload_n 0, 1) := by decide +kernel
theorem d_Mo_fillSum_18 : decode prog_11_method_58_code 18 = .ok (.getfield 13, 3) := by decide +kernel
theorem d_Mo_fillSum_21 : decode prog_11_method_58_code 21 = .ok (.iload_n 1, 1) := by decide +kernel
theorem d_Mo_fillSum_22 : decode prog_11_method_58_code 22 = .ok (.iaload, 1) := by decide +kernel
theorem d_Mo_fillSum_23 : decode prog_11_method_58_code 23 = .ok (.iaload, 1) := by decide +kernel
theorem d_Mo_fillSum_24 : decode prog_11_method_58_code 24 = .ok (.iadd, 1) := by decide +kernel
theorem d_Mo_fillSum_25 : decode prog_11_method_58_code 25 = .ok (.istore_n 3, 1) := by decide +kernel
theorem d_Mo_fillSum_26 : decode prog_11_method_58_code 26 = .ok (.aload_n 0, 1) := by decide +kernel
theorem d_Mo_fillSum_27 : decode prog_11_method_58_code 27 = .ok (.getfield 76, 3) := by decide +kernel
theorem d_Mo_fillSum_30 : decode prog_11_method_58_code 30 = .ok (.iload_n 1, 1) := by decide +kernel
theorem d_Mo_fillSum_31 : decode prog_11_method_58_code 31 = .ok (.iaload, 1) := by decide +kernel
theorem d_Mo_fillSum_32 : decode prog_11_method_58_code 32 = .ok (.iconst 4, 1) := by decide +kernel
theorem d_Mo_fillSum_33 : decode prog_11_method_58_code 33 = .ok (.iadd, 1) := by decide +kernel
theorem d_Mo_fillSum_34 : decode prog_11_method_58_code 34 = .ok (.istore 4, 2) := by decide +kernel
theorem d_Mo_fillSum_36 : decode prog_11_method_58_code 36 = .ok (.iload 4, 2) := by decide +kernel
theorem d_Mo_fillSum_38 : decode prog_11_method_58_code 38 = .ok (.iload_n 3, 1) := by decide +kernel
theorem d_Mo_fillSum_39 : decode prog_11_method_58_code 39 = .ok (.if_icmp .ge 21, 3) := by decide +kernel
theorem d_Mo_fillSum_42 : decode prog_11_method_58_code 42 = .ok (.iload_n 2, 1) := by decide +kernel
theorem d_Mo_fillSum_43 : decode prog_11_method_58_code 43 = .ok (.aload_n 0, 1) := by decide +kernel
theorem d_Mo_fillSum_44 : decode prog_11_method_58_code 44 = .ok (.getfield 57, 3) := by decide +kernel
theorem d_Mo_fillSum_47 : decode prog_11_method_58_code 47 = .ok (.iload 4, 2) := by decide +kernel
theorem d_Mo_fillSum_49 : decode prog_11_method_58_code 49 = .ok (.iaload, 1) := by decide +kernel
theorem d_Mo_fillSum_50 : decode prog_11_method_58_code 50 = .ok (.invokestatic 136, 3) := by decide +kernel
theorem d_Mo_fillSum_53 : decode prog_11_method_58_code 53 = .ok (.istore_n 2, 1) := by decide +kernel
theorem d_Mo_fillSum_54 : decode prog_11_method_58_code 54 = .ok (.iinc 4 1, 3) := by decide +kernel
theorem d_Mo_fillSum_57 : decode prog_11_method_58_code 57 = .ok (.goto (-21), 3) := by decide +kernel
theorem d_Mo_fillSum_60 : decode prog_11_method_58_code 60 = .ok (.iload_n 2, 1) := by decide +kernel
theorem d_Mo_fillSum_61 : decode prog_11_method_58_code 61 = .ok (.iconst (-1), 1) := by decide +kernel
theorem d_Mo_fillSum_62 : decode prog_11_method_58_code 62 = .ok (.ixor, 1) := by decide +kernel
theorem d_Mo_fillSum_63 : decode prog_11_method_58_code 63 = .ok (.istore_n 2, 1) := by decide +kernel
theorem d_Mo_fillSum_64 : decode prog_11_method_58_code 64 = .ok (.iconst 0, 1) := by decide +kernel
theorem d_Mo_fillSum_65 : decode prog_11_method_58_code 65 = .ok (.istore 4, 2) := by decide +kernel
theorem d_Mo_fillSum_67 : decode prog_11_method_58_code 67 = .ok (.iload 4, 2) := by decide +kernel
theorem d_Mo_fillSum_69 : decode prog_11_method_58_code 69 = .ok (.iconst 4, 1) := by decide +kernel
theorem d_Mo_fillSum_70 : decode prog_11_method_58_code 70 = .ok (.if_icmp .ge 34, 3) := by decide +kernel
theorem d_Mo_fillSum_73 : decode prog_11_method_58_code 73 = .ok (.aload_n 0, 1) := by decide +kernel
theorem d_Mo_fillSum_74 : decode prog_11_method_58_code 74 = .ok (.getfield 57, 3) := by decide +kernel
theorem d_Mo_fillSum_77 : decode prog_11_method_58_code 77 = .ok (.aload_n 0, 1) := by decide +kernel
theorem d_Mo_fillSum_78 : decode prog_11_method_58_code 78 = .ok (.getfield 76, 3) := by decide +kernel
theorem d_Mo_fillSum_81 : decode prog_11_method_58_code 81 = .ok (.iload_n 1, 1) := by decide +kernel
theorem d_Mo_fillSum_82 : decode prog_11_method_58_code 82 = .ok (.iaload, 1) := by decide +kernel
theorem d_Mo_fillSum_83 : decode prog_11_method_58_code 83 = .ok (.iload 4, 2) := by decide +kernel
theorem d_Mo_fillSum_85 : decode prog_11_method_58_code 85 = .ok (.iadd, 1) := by decide +kernel
theorem d_Mo_fillSum_86 : decode prog_11_method_58_code 86 = .ok (.iload_n 2, 1) := by decide +kernel
theorem d_Mo_fillSum_87 : decode prog_11_method_58_code 87 = .ok (.bipush 8, 2) := by decide +kernel
theorem d_Mo_fillSum_89 : decode prog_11_method_58_code 89 = .ok (.iload 4, 2) := by decide +kernel
theorem d_Mo_fillSum_91 : decode prog_11_method_58_code 91 = .ok (.imul, 1) := by decide +kernel
theorem d_Mo_fillSum_92 : decode prog_11_method_58_code 92 = .ok (.ishr, 1) := by decide +kernel
theorem d_Mo_fillSum_93 : decode prog_11_method_58_code 93 = .ok (.sipush 255, 3) := by decide +kernel
theorem d_Mo_fillSum_96 : decode prog_11_method_58_code 96 = .ok (.iand, 1) := by decide +kernel
theorem d_Mo_fillSum_97 : decode prog_11_method_58_code 97 = .ok (.iastore, 1) := by decide +kernel
theorem d_Mo_fillSum_98 : decode prog_11_method_58_code 98 = .ok (.iinc 4 1, 3) := by decide +kernel
theorem d_Mo_fillSum_101 : decode prog_11_method_58_code 101 = .ok (.goto (-34), 3) := by decide +kernel
theorem d_Mo_fillSum_104 : decode prog_11_method_58_code 104 = .ok (.return_, 1) := by decide +kernel
theorem d_Mo_write_0 : decode prog_11_method_59_code 0 = .ok (.aload_n 0, 1) := by decide +kernel
theorem d_Mo_write_1 : decode prog_11_method_59_code 1 = .ok (.iload_n 1, 1) := by decide +kernel
theorem d_Mo_write_2 : decode prog_11_method_59_code 2 = .ok (.invokevirtual 256, 3) := by decide +kernel
theorem d_Mo_write_5 : decode prog_11_method_59_code 5 = .ok (.iconst 0, 1) := by decide +kernel
theorem d_Mo_write_6 : decode prog_11_method_59_code 6 = .ok (.istore_n 2, 1) := by decide +kernel
theorem d_Mo_write_7 : decode prog_11_method_59_code 7 = .ok (.iconst 0, 1) := by decide +kernel
theorem d_Mo_write_8 : decode prog_11_method_59_code 8 = .ok (.istore_n 3, 1) := by decide +kernel
theorem d_Mo_write_9 : decode prog_11_method_59_code 9 = .ok (.iload_n 3, 1) := by decide +kernel
theorem d_Mo_write_10 : decode prog_11_method_59_code 10 = .ok (.aload_n 0, 1) := by decide +kernel
theorem d_Mo_write_11 : decode prog_11_method_59_code 11 = .ok (.getfield 86, 3) := by decide +kernel
theorem d_Mo_write_14 : decode prog_11_method_59_code 14 = .ok (.if_icmp .ge 69, 3) := by decide +kernel
theorem d_Mo_write_17 : decode prog_11_method_59_code 17 = .ok (.aload_n 0, 1) := by decide +kernel
theorem d_Mo_write_18 : decode prog_11_method_59_code 18 = .ok (.getfield 7, 3) := by decide +kernel
theorem d_Mo_write_21 : decode prog_11_method_59_code 21 = .ok (.iload_n 3, 1) := by decide +kernel
theorem d_Mo_write_22 : decode prog_11_method_59_code 22 = .ok (.iaload, 1) := by decide +kernel
theorem d_Mo_write_23 : decode prog_11_method_59_code 23 = .ok (.invokestatic 236, 3) := by decide +kernel
theorem d_Mo_write_26 : decode prog_11_method_59_code 26 = .ok (.aload_n 0, 1) := by decide +kernel
theorem d_Mo_write_27 : decode prog_11_method_59_code 27 = .ok (.iload_n 3, 1) := by decide +kernel
theorem d_Mo_write_28 : decode prog_11_method_59_code 28 = .ok (.iload_n 1, 1) := by decide +kernel
theorem d_Mo_write_29 : decode prog_11_method_59_code 29 = .ok (.invokevirtual 239, 3) := by decide +kernel
theorem d_Mo_write_32 : decode prog_11_method_59_code 32 = .ok (.ifCond .eq 7, 3) := by decide +kernel
theorem d_Mo_write_35 : decode prog_11_method_59_code 35 = .ok (.iconst 1, 1) := by decide +kernel
theorem d_Mo_write_36 : decode prog_11_method_59_code 36 = .ok (.goto 13, 3) := by decide +kernel
theorem d_Mo_write_39 : decode prog_11_method_59_code 39 = .ok (.aload_n 0, 1) := by decide +kernel
theorem d_Mo_write_40 : decode prog_11_method_59_code 40 = .ok (.getfield 73, 3) := by decide +kernel
theorem d_Mo_write_43 : decode prog_11_method_59_code 43 = .ok (.iload_n 3, 1) := by decide +kernel
theorem d_Mo_write_44 : decode prog_11_method_59_code 44 = .ok (.iaload, 1) := by decide +kernel
theorem d_Mo_write_45 : decode prog_11_method_59_code 45 = .ok (.i2l, 1) := by decide +kernel
theorem d_Mo_write_46 : decode prog_11_method_59_code 46 = .ok (.invokestatic 223, 3) := by decide +kernel
theorem d_Mo_write_49 : decode prog_11_method_59_code 49 = .ok (.iadd, 1) := by decide +kernel
theorem d_Mo_write_50 : decode prog_11_method_59_code 50 = .ok (.istore 4, 2) := by decide +kernel
theorem d_Mo_write_52 : decode prog_11_method_59_code 52 = .ok (.aload_n 0, 1) := by decide +kernel
theorem d_Mo_write_53 : decode prog_11_method_59_code 53 = .ok (.getfield 13, 3) := by decide +kernel
theorem d_Mo_write_56 : decode prog_11_method_59_code 56 = .ok (.iload_n 3, 1) := by decide +kernel
theorem d_Mo_write_57 : decode prog_11_method_59_code 57 = .ok (.iaload, 1) := by decide +kernel
theorem d_Mo_write_58 : decode prog_11_method_59_code 58 = .ok (.ifCond .ge 17, 3) := by decide +kernel
theorem d_Mo_write_61 : decode prog_11_method_59_code 61 = .ok (.iload_n 2, 1) := by decide +kernel
theorem d_Mo_write_62 : decode prog_11_method_59_code 62 = .ok (.iload 4, 2) := by decide +kernel
theorem d_Mo_write_64 : decode prog_11_method_59_code 64 = .ok (.iadd, 1) := by decide +kernel
theorem d_Mo_write_65 : decode prog_11_method_59_code 65 = .ok (.aload_n 0, 1) := by decide +kernel
theorem d_Mo_write_66 : decode prog_11_method_59_code 66 = .ok (.getfield 73, 3) := by decide +kernel
theorem d_Mo_write_69 : decode prog_11_method_59_code 69 = .ok (.iload_n 3, 1) := by decide +kernel
theorem d_Mo_write_70 : decode prog_11_method_59_code 70 = .ok (.iaload, 1) := by decide +kernel
theorem d_Mo_write_71 : decode prog_11_method_59_code 71 = .ok (.iadd, 1) := by decide +kernel
theorem d_Mo_write_72 : decode prog_11_method_59_code 72 = .ok (.goto 4, 3) := by decide +kernel
theorem d_Mo_write_75 : decode prog_11_method_59_code 75 = .ok (.iload_n 2, 1) := by decide +kernel
theorem d_Mo_write_76 : decode prog_11_method_59_code 76 = .ok (.istore_n 2, 1) := by decide +kernel
theorem d_Mo_write_77 : decode prog_11_method_59_code 77 = .ok (.iinc 3 1, 3) := by decide +kernel
theorem d_Mo_write_80 : decode prog_11_method_59_code 80 = .ok (.goto (-71), 3) := by decide +kernel
theorem d_Mo_write_83 : decode prog_11_method_59_code 83 = .ok (.iload_n 2, 1) := by decide +kernel
theorem d_Mo_write_84 : decode prog_11_method_59_code 84 = .ok (.sipush 640, 3) := by decide +kernel
theorem d_Mo_write_87 : decode prog_11_method_59_code 87 = .ok (.if_icmp .le 6, 3) := by decide +kernel
theorem d_Mo_write_90 : decode prog_11_method_59_code 90 = .ok (.bipush (-8), 2) := by decide +kernel
theorem d_Mo_write_92 : decode prog_11_method_59_code 92 = .ok (.ireturn, 1) := by decide +kernel
theorem d_Mo_write_93 : decode prog_11_method_59_code 93 = .ok (.aload_n 0, 1) := by decide +kernel
theorem d_Mo_write_94 : decode prog_11_method_59_code 94 = .ok (.iconst 0, 1) := by decide +kernel
theorem d_Mo_write_95 : decode prog_11_method_59_code 95 = .ok (.putfield 112, 3) := by decide +kernel
theorem d_Mo_write_98 : decode prog_11_method_59_code 98 = .ok (.iconst 0, 1) := by decide +kernel
theorem d_Mo_write_99 : decode prog_11_method_59_code 99 = .ok (.istore_n 3, 1) := by decide +kernel
theorem d_Mo_write_100 : decode prog_11_method_59_code 100 = .ok (.iload_n 3, 1) := by decide +kernel
theorem d_Mo_write_101 : decode prog_11_method_59_code 101 = .ok (.aload_n 0, 1) := by decide +kernel
theorem d_Mo_write_102 : decode prog_11_method_59_code 102 = .ok (.getfield 86, 3) := by decide +kernel
theorem d_Mo_write_105 : decode prog_11_method_59_code 105 = .ok (.if_icmp .ge 84, 3) := by decide +kernel
theorem d_Mo_write_108 : decode prog_11_method_59_code 108 = .ok (.aload_n 0, 1) := by decide +kernel
theorem d_Mo_write_109 : decode prog_11_method_59_code 109 = .ok (.aload_n 0, 1) := by decide +kernel
theorem d_Mo_write_110 : decode prog_11_method_59_code 110 = .ok (.getfield 7, 3) := by decide +kernel
theorem d_Mo_write_113 : decode prog_11_method_59_code 113 = .ok (.iload_n 3, 1) := by decide +kernel
theorem d_Mo_write_114 : decode prog_11_method_59_code 114 = .ok (.iaload, 1) := by decide +kernel
theorem d_Mo_write_115 : decode prog_11_method_59_code 115 = .ok (.i2l, 1) := by decide +kernel
theorem d_Mo_write_116 : decode prog_11_method_59_code 116 = .ok (.aload_n 0, 1) := by decide +kernel
theorem d_Mo_write_117 : decode prog_11_method_59_code 117 = .ok (.getfield 7, 3) := by decide +kernel
theorem d_Mo_write_120 : decode prog_11_method_59_code 120 = .ok (.iload_n 3, 1) := by decide +kernel
theorem d_Mo_write_121 : decode prog_11_method_59_code 121 = .ok (.iaload, 1) := by decide +kernel
theorem d_Mo_write_122 : decode prog_11_method_59_code 122 = .ok (.invokestatic 236, 3) := by decide +kernel
theorem d_Mo_write_125 : decode prog_11_method_59_code 125 = .ok (.invokevirtual 246, 3) := by decide +kernel
theorem d_Mo_write_128 : decode prog_11_method_59_code 128 = .ok (.aload_n 0, 1) := by decide +kernel
theorem d_Mo_write_129 : decode prog_11_method_59_code 129 = .ok (.iload_n 3, 1) := by decide +kernel
theorem d_Mo_write_130 : decode prog_11_method_59_code 130 = .ok (.iload_n 1, 1) := by decide +kernel
theorem d_Mo_write_131 : decode prog_11_method_59_code 131 = .ok (.invokevirtual 239, 3) := by decide +kernel
theorem d_Mo_write_134 : decode prog_11_method_59_code 134 = .ok (.ifCond .eq 13, 3) := by decide +kernel
theorem d_Mo_write_137 : decode prog_11_method_59_code 137 = .ok (.aload_n 0, 1) := by decide +kernel
theorem d_Mo_write_138 : decode prog_11_method_59_code 138 = .ok (.sipush 255, 3) := by decide +kernel
theorem d_Mo_write_141 : decode prog_11_method_59_code 141 = .ok (.invokevirtual 243, 3) := by decide +kernel
theorem d_Mo_write_144 : decode prog_11_method_59_code 144 = .ok (.goto 24, 3) := by decide +kernel
theorem d_Mo_write_147 : decode prog_11_method_59_code 147 = .ok (.aload_n 0, 1) := by decide +kernel
theorem d_Mo_write_148 : decode prog_11_method_59_code 148 = .ok (.aload_n 0, 1) := by decide +kernel
theorem d_Mo_write_149 : decode prog_11_method_59_code 149 = .ok (.getfield 73, 3) := by decide +kernel
theorem d_Mo_write_152 : decode prog_11_method_59_code 152 = .ok (.iload_n 3, 1) := by decide +kernel
theorem d_Mo_write_153 : decode prog_11_method_59_code 153 = .ok (.iaload, 1) := by decide +kernel
theorem d_Mo_write_154 : decode prog_11_method_59_code 154 = .ok (.i2l, 1) := by decide +kernel
theorem d_Mo_write_155 : decode prog_11_method_59_code 155 = .ok (.aload_n 0, 1) := by decide +kernel
theorem d_Mo_write_156 : decode prog_11_method_59_code 156 = .ok (.getfield 73, 3) := by decide +kernel
theorem d_Mo_write_159 : decode prog_11_method_59_code 159 = .ok (.iload_n 3, 1) := by decide +kernel
theorem d_Mo_write_160 : decode prog_11_method_59_code 160 = .ok (.iaload, 1) := by decide +kernel
theorem d_Mo_write_161 : decode prog_11_method_59_code 161 = .ok (.i2l, 1) := by decide +kernel
theorem d_Mo_write_162 : decode prog_11_method_59_code 162 = .ok (.invokestatic 223, 3) := by decide +kernel
theorem d_Mo_write_165 : decode prog_11_method_59_code 165 = .ok (.invokevirtual 250, 3) := by decide +kernel
theorem d_Mo_write_168 : decode prog_11_method_59_code 168 = .ok (.aload_n 0, 1) := by decide +kernel
theorem d_Mo_write_169 : decode prog_11_method_59_code 169 = .ok (.getfield 76, 3) := by decide +kernel
theorem d_Mo_write_172 : decode prog_11_method_59_code 172 = .ok (.iload_n 3, 1) := by decide +kernel
theorem d_Mo_write_173 : decode prog_11_method_59_code 173 = .ok (.aload_n 0, 1) := by decide +kernel
theorem d_Mo_write_174 : decode prog_11_method_59_code 174 = .ok (.getfield 112, 3) := by decide +kernel
theorem d_Mo_write_177 : decode prog_11_method_59_code 177 = .ok (.iastore, 1) := by decide +kernel
theorem d_Mo_write_178 : decode prog_11_method_59_code 178 = .ok (.aload_n 0, 1) := by decide +kernel
theorem d_Mo_write_179 : decode prog_11_method_59_code 179 = .ok (.iload_n 3, 1) := by decide +kernel
theorem d_Mo_write_180 : decode prog_11_method_59_code 180 = .ok (.invokevirtual 260, 3) := by decide +kernel
theorem d_Mo_write_183 : decode prog_11_method_59_code 183 = .ok (.iinc 3 1, 3) := by decide +kernel
theorem d_Mo_write_186 : decode prog_11_method_59_code 186 = .ok (.goto (-86), 3) := by decide +kernel
theorem d_Mo_write_189 : decode prog_11_method_59_code 189 = .ok (.iconst 0, 1) := by decide +kernel
theorem d_Mo_write_190 : decode prog_11_method_59_code 190 = .ok (.istore_n 3, 1) := by decide +kernel
theorem d_Mo_write_191 : decode prog_11_method_59_code 191 = .ok (.iload_n 3, 1) := by decide +kernel
theorem d_Mo_write_192 : decode prog_11_method_59_code 192 = .ok (.aload_n 0, 1) := by decide +kernel
theorem d_Mo_write_193 : decode prog_11_method_59_code 193 = .ok (.getfield 86, 3) := by decide +kernel
theorem d_Mo_write_196 : decode prog_11_method_59_code 196 = .ok (.if_icmp .ge 26, 3) := by decide +kernel
theorem d_Mo_write_199 : decode prog_11_method_59_code 199 = .ok (.aload_n 0, 1) := by decide +kernel
theorem d_Mo_write_200 : decode prog_11_method_59_code 200 = .ok (.getfield 7, 3) := by decide +kernel
theorem d_Mo_write_203 : decode prog_11_method_59_code 203 = .ok (.iload_n 3, 1) := by decide +kernel
theorem d_Mo_write_204 : decode prog_11_method_59_code 204 = .ok (.iaload, 1) := by decide +kernel
theorem d_Mo_write_205 : decode prog_11_method_59_code 205 = .ok (.sipush 191, 3) := by decide +kernel
theorem d_Mo_write_208 : decode prog_11_method_59_code 208 = .ok (.if_icmp .ne 8, 3) := by decide +kernel
theorem d_Mo_write_211 : decode prog_11_method_59_code 211 = .ok (.aload_n 0, 1) := by decide +kernel
theorem d_Mo_write_212 : decode prog_11_method_59_code 212 = .ok (.iload_n 3, 1) := by decide +kernel
theorem d_Mo_write_213 : decode prog_11_method_59_code 213 = .ok (.invokevirtual 263, 3) := by decide +kernel
theorem d_Mo_write_216 : decode prog_11_method_59_code 216 = .ok (.iinc 3 1, 3) := by decide +kernel
theorem d_Mo_write_219 : decode prog_11_method_59_code 219 = .ok (.goto (-28), 3) := by decide +kernel
theorem d_Mo_write_222 : decode prog_11_method_59_code 222 = .ok (.aload_n 0, 1) := by decide +kernel
theorem d_Mo_write_223 : decode prog_11_method_59_code 223 = .ok (.getfield 112, 3) := by decide +kernel
theorem d_Mo_write_226 : decode prog_11_method_59_code 226 = .ok (.ireturn, 1) := by decide +kernel
theorem d_Mo_first_0 : decode prog_11_method_60_code 0 = .ok (.iconst 0, 1) := by decide +kernel
theorem d_Mo_first_1 : decode prog_11_method_60_code 1 = .ok (.istore_n 3, 1) := by decide +kernel
theorem d_Mo_first_2 : decode prog_11_method_60_code 2 = .ok (.iload_n 3, 1) := by decide +kernel
theorem d_Mo_first_3 : decode prog_11_method_60_code 3 = .ok (.aload_n 0, 1) := by decide +kernel
theorem d_Mo_first_4 : decode prog_11_method_60_code 4 = .ok (.getfield 86, 3) := by decide +kernel
theorem d_Mo_first_7 : decode prog_11_method_60_code 7 = .ok (.if_icmp .ge 36, 3) := by decide +kernel
theorem d_Mo_first_10 : decode prog_11_method_60_code 10 = .ok (.aload_n 0, 1) := by decide +kernel
theorem d_Mo_first_11 : decode prog_11_method_60_code 11 = .ok (.getfield 13, 3) := by decide +kernel
theorem d_Mo_first_14 : decode prog_11_method_60_code 14 = .ok (.iload_n 3, 1) := by decide +kernel
theorem d_Mo_first_15 : decode prog_11_method_60_code 15 = .ok (.iaload, 1) := by decide +kernel
theorem d_Mo_first_16 : decode prog_11_method_60_code 16 = .ok (.iload_n 1, 1) := by decide +kernel
theorem d_Mo_first_17 : decode prog_11_method_60_code 17 = .ok (.if_icmp .ne 20, 3) := by decide +kernel
theorem d_Mo_first_20 : decode prog_11_method_60_code 20 = .ok (.aload_n 0, 1) := by decide +kernel
theorem d_Mo_first_21 : decode prog_11_method_60_code 21 = .ok (.getfield 7, 3) := by decide +kernel
theorem d_Mo_first_24 : decode prog_11_method_60_code 24 = .ok (.iload_n 3, 1) := by decide +kernel
theorem d_Mo_first_25 : decode prog_11_method_60_code 25 = .ok (.iaload, 1) := by decide +kernel
theorem d_Mo_first_26 : decode prog_11_method_60_code 26 = .ok (.iload_n 2, 1) := by decide +kernel
theorem d_Mo_first_27 : decode prog_11_method_60_code 27 = .ok (.if_icmp .ne 10, 3) := by decide +kernel
theorem d_Mo_first_30 : decode prog_11_method_60_code 30 = .ok (.aload_n 0, 1) := by decide +kernel
theorem d_Mo_first_31 : decode prog_11_method_60_code 31 = .ok (.getfield 16, 3) := by decide +kernel
theorem d_Mo_first_34 : decode prog_11_method_60_code 34 = .ok (.iload_n 3, 1) := by decide +kernel
theorem d_Mo_first_35 : decode prog_11_method_60_code 35 = .ok (.laload, 1) := by decide +kernel
theorem d_Mo_first_36 : decode prog_11_method_60_code 36 = .ok (.lreturn, 1) := by decide +kernel
theorem d_Mo_first_37 : decode prog_11_method_60_code 37 = .ok (.iinc 3 1, 3) := by decide +kernel
theorem d_Mo_first_40 : decode prog_11_method_60_code 40 = .ok (.goto (-38), 3) := by decide +kernel
theorem d_Mo_first_43 : decode prog_11_method_60_code 43 = .ok (.lconst 0, 1) := by decide +kernel
theorem d_Mo_first_44 : decode prog_11_method_60_code 44 = .ok (.lreturn, 1) := by decide +kernel
theorem d_Mo_moment_0 : decode prog_11_method_61_code 0 = .ok (.aload_n 0, 1) := by decide +kernel
theorem d_Mo_moment_1 : decode prog_11_method_61_code 1 = .ok (.aload_n 0, 1) := by decide +kernel
theorem d_Mo_moment_2 : decode prog_11_method_61_code 2 = .ok (.getfield 13, 3) := by decide +kernel
theorem d_Mo_moment_5 : decode prog_11_method_61_code 5 = .ok (.iload_n 1, 1) := by decide +kernel
theorem d_Mo_moment_6 : decode prog_11_method_61_code 6 = .ok (.iaload, 1) := by decide +kernel
theorem d_Mo_moment_7 : decode prog_11_method_61_code 7 = .ok (.sipush 231, 3) := by decide +kernel
theorem d_Mo_moment_10 : decode prog_11_method_61_code 10 = .ok (.invokevirtual 266, 3) := by decide +kernel
theorem d_Mo_moment_13 : decode prog_11_method_61_code 13 = .ok (.aload_n 0, 1) := by decide +kernel
theorem d_Mo_moment_14 : decode prog_11_method_61_code 14 = .ok (.getfield 29, 3) := by decide +kernel
theorem d_Mo_moment_17 : decode prog_11_method_61_code 17 = .ok (.iload_n 1, 1) := by decide +kernel
theorem d_Mo_moment_18 : decode prog_11_method_61_code 18 = .ok (.iaload, 1) := by decide +kernel
theorem d_Mo_moment_19 : decode prog_11_method_61_code 19 = .ok (.i2l, 1) := by decide +kernel
theorem d_Mo_moment_20 : decode prog_11_method_61_code 20 = .ok (.ladd, 1) := by decide +kernel
theorem d_Mo_moment_21 : decode prog_11_method_61_code 21 = .ok (.lreturn, 1) := by decide +kernel
theorem d_Mo_isBlockOf_0 : decode prog_11_method_62_code 0 = .ok (.aload_n 0, 1) := by decide +kernel
theorem d_Mo_isBlockOf_1 : decode prog_11_method_62_code 1 = .ok (.iload_n 1, 1) := by decide +kernel
theorem d_Mo_isBlockOf_2 : decode prog_11_method_62_code 2 = .ok (.sipush 163, 3) := by decide +kernel
theorem d_Mo_isBlockOf_5 : decode prog_11_method_62_code 5 = .ok (.invokevirtual 208, 3) := by decide +kernel
theorem d_Mo_isBlockOf_8 : decode prog_11_method_62_code 8 = .ok (.ifCond .eq 22, 3) := by decide +kernel
theorem d_Mo_isBlockOf_11 : decode prog_11_method_62_code 11 = .ok (.aload_n 0, 1) := by decide +kernel
theorem d_Mo_isBlockOf_12 : decode prog_11_method_62_code 12 = .ok (.getfield 13, 3) := by decide +kernel
theorem d_Mo_isBlockOf_15 : decode prog_11_method_62_code 15 = .ok (.aload_n 0, 1) := by decide +kernel
theorem d_Mo_isBlockOf_16 : decode prog_11_method_62_code 16 = .ok (.getfield 13, 3) := by decide +kernel
theorem d_Mo_isBlockOf_19 : decode prog_11_method_62_code 19 = .ok (.iload_n 1, 1) := by decide +kernel
theorem d_Mo_isBlockOf_20 : decode prog_11_method_62_code 20 = .ok (.iaload, 1) := by decide +kernel
theorem d_Mo_isBlockOf_21 : decode prog_11_method_62_code 21 = .ok (.iaload, 1) := by decide +kernel
theorem d_Mo_isBlockOf_22 : decode prog_11_method_62_code 22 = .ok (.iload_n 2, 1) := by decide +kernel
theorem d_Mo_isBlockOf_23 : decode prog_11_method_62_code 23 = .ok (.if_icmp .ne 7, 3) := by decide +kernel
theorem d_Mo_isBlockOf_26 : decode prog_11_method_62_code 26 = .ok (.iconst 1, 1) := by decide +kernel
theorem d_Mo_isBlockOf_27 : decode prog_11_method_62_code 27 = .ok (.goto 4, 3) := by decide +kernel
theorem d_Mo_isBlockOf_30 : decode prog_11_method_62_code 30 = .ok (.iconst 0, 1) := by decide +kernel
theorem d_Mo_isBlockOf_31 : decode prog_11_method_62_code 31 = .ok (.ireturn, 1) := by decide +kernel
theorem d_Mo_index_0 : decode prog_11_method_63_code 0 = .ok (.aload_n 0, 1) := by decide +kernel
theorem d_Mo_index_1 : decode prog_11_method_63_code 1 = .ok (.iload_n 1, 1) := by decide +kernel
theorem d_Mo_index_2 : decode prog_11_method_63_code 2 = .ok (.ldc 80, 2) := by decide +kernel
theorem d_Mo_index_4 : decode prog_11_method_63_code 4 = .ok (.invokevirtual 208, 3) := by decide +kernel
theorem d_Mo_index_7 : decode prog_11_method_63_code 7 = .ok (.ifCond .ne 5, 3) := by decide +kernel
theorem d_Mo_index_10 : decode prog_11_method_63_code 10 = .ok (.iconst (-1), 1) := by decide +kernel
theorem d_Mo_index_11 : decode prog_11_method_63_code 11 = .ok (.ireturn, 1) := by decide +kernel
theorem d_Mo_index_12 : decode prog_11_method_63_code 12 = .ok (.aload_n 0, 1) := by decide +kernel
theorem d_Mo_index_13 : decode prog_11_method_63_code 13 = .ok (.getfield 86, 3) := by decide +kernel
theorem d_Mo_index_16 : decode prog_11_method_63_code 16 = .ok (.istore_n 2, 1) := by decide +kernel
theorem d_Mo_index_17 : decode prog_11_method_63_code 17 = .ok (.iconst 0, 1) := by decide +kernel
theorem d_Mo_index_18 : decode prog_11_method_63_code 18 = .ok (.istore_n 3, 1) := by decide +kernel
theorem d_Mo_index_19 : decode prog_11_method_63_code 19 = .ok (.iconst 0, 1) := by decide +kernel
theorem d_Mo_index_20 : decode prog_11_method_63_code 20 = .ok (.istore 4, 2) := by decide +kernel
theorem d_Mo_index_22 : decode prog_11_method_63_code 22 = .ok (.iload 4, 2) := by decide +kernel
theorem d_Mo_index_24 : decode prog_11_method_63_code 24 = .ok (.aload_n 0, 1) := by decide +kernel
theorem d_Mo_index_25 : decode prog_11_method_63_code 25 = .ok (.getfield 86, 3) := by decide +kernel
theorem d_Mo_index_28 : decode prog_11_method_63_code 28 = .ok (.if_icmp .ge 77, 3) := by decide +kernel
theorem d_Mo_index_31 : decode prog_11_method_63_code 31 = .ok (.aload_n 0, 1) := by decide +kernel
theorem d_Mo_index_32 : decode prog_11_method_63_code 32 = .ok (.getfield 7, 3) := by decide +kernel
theorem d_Mo_index_35 : decode prog_11_method_63_code 35 = .ok (.iload 4, 2) := by decide +kernel
theorem d_Mo_index_37 : decode prog_11_method_63_code 37 = .ok (.iaload, 1) := by decide +kernel
theorem d_Mo_index_38 : decode prog_11_method_63_code 38 = .ok (.sipush 187, 3) := by decide +kernel
theorem d_Mo_index_41 : decode prog_11_method_63_code 41 = .ok (.if_icmp .ne 28, 3) := by decide +kernel
theorem d_Mo_index_44 : decode prog_11_method_63_code 44 = .ok (.aload_n 0, 1) := by decide +kernel
theorem d_Mo_index_45 : decode prog_11_method_63_code 45 = .ok (.getfield 13, 3) := by decide +kernel
theorem d_Mo_index_48 : decode prog_11_method_63_code 48 = .ok (.iload 4, 2) := by decide +kernel
theorem d_Mo_index_50 : decode prog_11_method_63_code 50 = .ok (.iaload, 1) := by decide +kernel
theorem d_Mo_index_51 : decode prog_11_method_63_code 51 = .ok (.iload_n 1, 1) := by decide +kernel
theorem d_Mo_index_52 : decode prog_11_method_63_code 52 = .ok (.if_icmp .ne 17, 3) := by decide +kernel
theorem d_Mo_index_55 : decode prog_11_method_63_code 55 = .ok (.iload_n 2, 1) := by decide +kernel
theorem d_Mo_index_56 : decode prog_11_method_63_code 56 = .ok (.aload_n 0, 1) := by decide +kernel
theorem d_Mo_index_57 : decode prog_11_method_63_code 57 = .ok (.iload 4, 2) := by decide +kernel
theorem d_Mo_index_59 : decode prog_11_method_63_code 59 = .ok (.invokevirtual 97, 3) := by decide +kernel
theorem d_Mo_index_62 : decode prog_11_method_63_code 62 = .ok (.iload 4, 2) := by decide +kernel
theorem d_Mo_index_64 : decode prog_11_method_63_code 64 = .ok (.isub, 1) := by decide +kernel
theorem d_Mo_index_65 : decode prog_11_method_63_code 65 = .ok (.isub, 1) := by decide +kernel
theorem d_Mo_index_66 : decode prog_11_method_63_code 66 = .ok (.goto 4, 3) := by decide +kernel
theorem d_Mo_index_69 : decode prog_11_method_63_code 69 = .ok (.iload_n 2, 1) := by decide +kernel
theorem d_Mo_index_70 : decode prog_11_method_63_code 70 = .ok (.istore_n 2, 1) := by decide +kernel
theorem d_Mo_index_71 : decode prog_11_method_63_code 71 = .ok (.aload_n 0, 1) := by decide +kernel
theorem d_Mo_index_72 : decode prog_11_method_63_code 72 = .ok (.iload 4, 2) := by decide +kernel
theorem d_Mo_index_74 : decode prog_11_method_63_code 74 = .ok (.iload_n 1, 1) := by decide +kernel
theorem d_Mo_index_75 : decode prog_11_method_63_code 75 = .ok (.invokevirtual 270, 3) := by decide +kernel
theorem d_Mo_index_78 : decode prog_11_method_63_code 78 = .ok (.ifCond .eq 19, 3) := by decide +kernel
theorem d_Mo_index_81 : decode prog_11_method_63_code 81 = .ok (.aload_n 0, 1) := by decide +kernel
theorem d_Mo_index_82 : decode prog_11_method_63_code 82 = .ok (.getfield 32, 3) := by decide +kernel
theorem d_Mo_index_85 : decode prog_11_method_63_code 85 = .ok (.iload 4, 2) := by decide +kernel
theorem d_Mo_index_87 : decode prog_11_method_63_code 87 = .ok (.baload, 1) := by decide +kernel
theorem d_Mo_index_88 : decode prog_11_method_63_code 88 = .ok (.ifCond .eq 9, 3) := by decide +kernel
theorem d_Mo_index_91 : decode prog_11_method_63_code 91 = .ok (.iload_n 3, 1) := by decide +kernel
theorem d_Mo_index_92 : decode prog_11_method_63_code 92 = .ok (.iconst 1, 1) := by decide +kernel
theorem d_Mo_index_93 : decode prog_11_method_63_code 93 = .ok (.iadd, 1) := by decide +kernel
theorem d_Mo_index_94 : decode prog_11_method_63_code 94 = .ok (.goto 4, 3) := by decide +kernel
theorem d_Mo_index_97 : decode prog_11_method_63_code 97 = .ok (.iload_n 3, 1) := by decide +kernel
theorem d_Mo_index_98 : decode prog_11_method_63_code 98 = .ok (.istore_n 3, 1) := by decide +kernel
theorem d_Mo_index_99 : decode prog_11_method_63_code 99 = .ok (.iinc 4 1, 3) := by decide +kernel
theorem d_Mo_index_102 : decode prog_11_method_63_code 102 = .ok (.goto (-80), 3) := by decide +kernel
theorem d_Mo_index_105 : decode prog_11_method_63_code 105 = .ok (.iload_n 2, 1) := by decide +kernel
theorem d_Mo_index_106 : decode prog_11_method_63_code 106 = .ok (.iconst 4, 1) := by decide +kernel
theorem d_Mo_index_107 : decode prog_11_method_63_code 107 = .ok (.iload_n 3, 1) := by decide +kernel
theorem d_Mo_index_108 : decode prog_11_method_63_code 108 = .ok (.imul, 1) := by decide +kernel
theorem d_Mo_index_109 : decode prog_11_method_63_code 109 = .ok (.iadd, 1) := by decide +kernel
theorem d_Mo_index_110 : decode prog_11_method_63_code 110 = .ok (.bipush 60, 2) := by decide +kernel
theorem d_Mo_index_112 : decode prog_11_method_63_code 112 = .ok (.if_icmp .le 6, 3) := by decide +kernel
theorem d_Mo_index_115 : decode prog_11_method_63_code 115 = .ok (.bipush (-6), 2) := by decide +kernel
theorem d_Mo_index_117 : decode prog_11_method_63_code 117 = .ok (.ireturn, 1) := by decide +kernel
theorem d_Mo_index_118 : decode prog_11_method_63_code 118 = .ok (.aload_n 0, 1) := by decide +kernel
theorem d_Mo_index_119 : decode prog_11_method_63_code 119 = .ok (.getfield 86, 3) := by decide +kernel
theorem d_Mo_index_122 : decode prog_11_method_63_code 122 = .ok (.iconst 1, 1) := by decide +kernel
theorem d_Mo_index_123 : decode prog_11_method_63_code 123 = .ok (.isub, 1) := by decide +kernel
theorem d_Mo_index_124 : decode prog_11_method_63_code 124 = .ok (.istore 4, 2) := by decide +kernel
theorem d_Mo_index_126 : decode prog_11_method_63_code 126 = .ok (.iload 4, 2) := by decide +kernel
theorem d_Mo_index_128 : decode prog_11_method_63_code 128 = .ok (.iload_n 1, 1) := by decide +kernel
theorem d_Mo_index_129 : decode prog_11_method_63_code 129 = .ok (.if_icmp .le 39, 3) := by decide +kernel
theorem d_Mo_index_132 : decode prog_11_method_63_code 132 = .ok (.aload_n 0, 1) := by decide +kernel
theorem d_Mo_index_133 : decode prog_11_method_63_code 133 = .ok (.getfield 7, 3) := by decide +kernel
theorem d_Mo_index_136 : decode prog_11_method_63_code 136 = .ok (.iload 4, 2) := by decide +kernel
theorem d_Mo_index_138 : decode prog_11_method_63_code 138 = .ok (.iaload, 1) := by decide +kernel
theorem d_Mo_index_139 : decode prog_11_method_63_code 139 = .ok (.sipush 187, 3) := by decide +kernel
theorem d_Mo_index_142 : decode prog_11_method_63_code 142 = .ok (.if_icmp .ne 20, 3) := by decide +kernel
theorem d_Mo_index_145 : decode prog_11_method_63_code 145 = .ok (.aload_n 0, 1) := by decide +kernel
theorem d_Mo_index_146 : decode prog_11_method_63_code 146 = .ok (.getfield 13, 3) := by decide +kernel
theorem d_Mo_index_149 : decode prog_11_method_63_code 149 = .ok (.iload 4, 2) := by decide +kernel
theorem d_Mo_index_151 : decode prog_11_method_63_code 151 = .ok (.iaload, 1) := by decide +kernel
theorem d_Mo_index_152 : decode prog_11_method_63_code 152 = .ok (.iload_n 1, 1) := by decide +kernel
theorem d_Mo_index_153 : decode prog_11_method_63_code 153 = .ok (.if_icmp .ne 9, 3) := by decide +kernel
theorem d_Mo_index_156 : decode prog_11_method_63_code 156 = .ok (.aload_n 0, 1) := by decide +kernel
theorem d_Mo_index_157 : decode prog_11_method_63_code 157 = .ok (.iload 4, 2) := by decide +kernel
theorem d_Mo_index_159 : decode prog_11_method_63_code 159 = .ok (.invokevirtual 273, 3) := by decide +kernel
theorem d_Mo_index_162 : decode prog_11_method_63_code 162 = .ok (.iinc 4 (-1), 3) := by decide +kernel
theorem d_Mo_index_165 : decode prog_11_method_63_code 165 = .ok (.goto (-39), 3) := by decide +kernel
theorem d_Mo_index_168 : decode prog_11_method_63_code 168 = .ok (.iconst 0, 1) := by decide +kernel
theorem d_Mo_index_169 : decode prog_11_method_63_code 169 = .ok (.istore 4, 2) := by decide +kernel
theorem d_Mo_index_171 : decode prog_11_method_63_code 171 = .ok (.aload_n 0, 1) := by decide +kernel
theorem d_Mo_index_172 : decode prog_11_method_63_code 172 = .ok (.getfield 86, 3) := by decide +kernel
theorem d_Mo_index_175 : decode prog_11_method_63_code 175 = .ok (.istore 5, 2) := by decide +kernel
theorem d_Mo_index_177 : decode prog_11_method_63_code 177 = .ok (.iload_n 1, 1) := by decide +kernel
theorem d_Mo_index_178 : decode prog_11_method_63_code 178 = .ok (.iconst 1, 1) := by decide +kernel
theorem d_Mo_index_179 : decode prog_11_method_63_code 179 = .ok (.iadd, 1) := by decide +kernel
theorem d_Mo_index_180 : decode prog_11_method_63_code 180 = .ok (.istore 6, 2) := by decide +kernel
theorem d_Mo_index_182 : decode prog_11_method_63_code 182 = .ok (.iload 6, 2) := by decide +kernel
theorem d_Mo_index_184 : decode prog_11_method_63_code 184 = .ok (.iload 5, 2) := by decide +kernel
theorem d_Mo_index_186 : decode prog_11_method_63_code 186 = .ok (.if_icmp .ge 93, 3) := by decide +kernel
theorem d_Mo_index_189 : decode prog_11_method_63_code 189 = .ok (.aload_n 0, 1) := by decide +kernel
theorem d_Mo_index_190 : decode prog_11_method_63_code 190 = .ok (.iload 6, 2) := by decide +kernel
theorem d_Mo_index_192 : decode prog_11_method_63_code 192 = .ok (.iload_n 1, 1) := by decide +kernel
theorem d_Mo_index_193 : decode prog_11_method_63_code 193 = .ok (.invokevirtual 270, 3) := by decide +kernel
theorem d_Mo_index_196 : decode prog_11_method_63_code 196 = .ok (.ifCond .eq 77, 3) := by decide +kernel
theorem d_Mo_index_199 : decode prog_11_method_63_code 199 = .ok (.aload_n 0, 1) := by decide +kernel
theorem d_Mo_index_200 : decode prog_11_method_63_code 200 = .ok (.getfield 32, 3) := by decide +kernel
theorem d_Mo_index_203 : decode prog_11_method_63_code 203 = .ok (.iload 6, 2) := by decide +kernel
theorem d_Mo_index_205 : decode prog_11_method_63_code 205 = .ok (.baload, 1) := by decide +kernel
theorem d_Mo_index_206 : decode prog_11_method_63_code 206 = .ok (.ifCond .eq 64, 3) := by decide +kernel
theorem d_Mo_index_209 : decode prog_11_method_63_code 209 = .ok (.aload_n 0, 1) := by decide +kernel
theorem d_Mo_index_210 : decode prog_11_method_63_code 210 = .ok (.iload_n 1, 1) := by decide +kernel
theorem d_Mo_index_211 : decode prog_11_method_63_code 211 = .ok (.sipush 187, 3) := by decide +kernel
theorem d_Mo_index_214 : decode prog_11_method_63_code 214 = .ok (.lconst 0, 1) := by decide +kernel
theorem d_Mo_index_215 : decode prog_11_method_63_code 215 = .ok (.invokevirtual 195, 3) := by decide +kernel
theorem d_Mo_index_218 : decode prog_11_method_63_code 218 = .ok (.istore 7, 2) := by decide +kernel

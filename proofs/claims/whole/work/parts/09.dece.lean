theorem d_Mo_take_6 : decode prog_11_method_16_code 6 = .ok (.getfield 112, 3) := by decide +kernel
theorem d_Mo_take_9 : decode prog_11_method_16_code 9 = .ok (.goto 4, 3) := by decide +kernel
theorem d_Mo_take_12 : decode prog_11_method_16_code 12 = .ok (.iconst 0, 1) := by decide +kernel
theorem d_Mo_take_13 : decode prog_11_method_16_code 13 = .ok (.putfield 107, 3) := by decide +kernel
theorem d_Mo_take_16 : decode prog_11_method_16_code 16 = .ok (.iconst 0, 1) := by decide +kernel
theorem d_Mo_take_17 : decode prog_11_method_16_code 17 = .ok (.istore_n 2, 1) := by decide +kernel
theorem d_Mo_take_18 : decode prog_11_method_16_code 18 = .ok (.iload_n 2, 1) := by decide +kernel
theorem d_Mo_take_19 : decode prog_11_method_16_code 19 = .ok (.aload_n 0, 1) := by decide +kernel
theorem d_Mo_take_20 : decode prog_11_method_16_code 20 = .ok (.getfield 107, 3) := by decide +kernel
theorem d_Mo_take_23 : decode prog_11_method_16_code 23 = .ok (.if_icmp .ge 21, 3) := by decide +kernel
theorem d_Mo_take_26 : decode prog_11_method_16_code 26 = .ok (.aload_n 0, 1) := by decide +kernel
theorem d_Mo_take_27 : decode prog_11_method_16_code 27 = .ok (.getfield 54, 3) := by decide +kernel
theorem d_Mo_take_30 : decode prog_11_method_16_code 30 = .ok (.iload_n 2, 1) := by decide +kernel
theorem d_Mo_take_31 : decode prog_11_method_16_code 31 = .ok (.aload_n 0, 1) := by decide +kernel
theorem d_Mo_take_32 : decode prog_11_method_16_code 32 = .ok (.getfield 57, 3) := by decide +kernel
theorem d_Mo_take_35 : decode prog_11_method_16_code 35 = .ok (.iload_n 2, 1) := by decide +kernel
theorem d_Mo_take_36 : decode prog_11_method_16_code 36 = .ok (.iaload, 1) := by decide +kernel
theorem d_Mo_take_37 : decode prog_11_method_16_code 37 = .ok (.iastore, 1) := by decide +kernel
theorem d_Mo_take_38 : decode prog_11_method_16_code 38 = .ok (.iinc 2 1, 3) := by decide +kernel
theorem d_Mo_take_41 : decode prog_11_method_16_code 41 = .ok (.goto (-23), 3) := by decide +kernel
theorem d_Mo_take_44 : decode prog_11_method_16_code 44 = .ok (.aload_n 0, 1) := by decide +kernel
theorem d_Mo_take_45 : decode prog_11_method_16_code 45 = .ok (.getfield 107, 3) := by decide +kernel
theorem d_Mo_take_48 : decode prog_11_method_16_code 48 = .ok (.ireturn, 1) := by decide +kernel
theorem d_Mo_out_0 : decode prog_11_method_17_code 0 = .ok (.iload_n 1, 1) := by decide +kernel
theorem d_Mo_out_1 : decode prog_11_method_17_code 1 = .ok (.ifCond .lt 20, 3) := by decide +kernel
theorem d_Mo_out_4 : decode prog_11_method_17_code 4 = .ok (.iload_n 1, 1) := by decide +kernel
theorem d_Mo_out_5 : decode prog_11_method_17_code 5 = .ok (.aload_n 0, 1) := by decide +kernel
theorem d_Mo_out_6 : decode prog_11_method_17_code 6 = .ok (.getfield 112, 3) := by decide +kernel
theorem d_Mo_out_9 : decode prog_11_method_17_code 9 = .ok (.if_icmp .ge 12, 3) := by decide +kernel
theorem d_Mo_out_12 : decode prog_11_method_17_code 12 = .ok (.aload_n 0, 1) := by decide +kernel
theorem d_Mo_out_13 : decode prog_11_method_17_code 13 = .ok (.getfield 57, 3) := by decide +kernel
theorem d_Mo_out_16 : decode prog_11_method_17_code 16 = .ok (.iload_n 1, 1) := by decide +kernel
theorem d_Mo_out_17 : decode prog_11_method_17_code 17 = .ok (.iaload, 1) := by decide +kernel
theorem d_Mo_out_18 : decode prog_11_method_17_code 18 = .ok (.goto 4, 3) := by decide +kernel
theorem d_Mo_out_21 : decode prog_11_method_17_code 21 = .ok (.iconst (-1), 1) := by decide +kernel
theorem d_Mo_out_22 : decode prog_11_method_17_code 22 = .ok (.ireturn, 1) := by decide +kernel
theorem d_Mo_widthOf_0 : decode prog_11_method_18_code 0 = .ok (.iconst 1, 1) := by decide +kernel
theorem d_Mo_widthOf_1 : decode prog_11_method_18_code 1 = .ok (.istore_n 1, 1) := by decide +kernel
theorem d_Mo_widthOf_2 : decode prog_11_method_18_code 2 = .ok (.iload_n 1, 1) := by decide +kernel
theorem d_Mo_widthOf_3 : decode prog_11_method_18_code 3 = .ok (.bipush 9, 2) := by decide +kernel
theorem d_Mo_widthOf_5 : decode prog_11_method_18_code 5 = .ok (.if_icmp .ge 19, 3) := by decide +kernel
theorem d_Mo_widthOf_8 : decode prog_11_method_18_code 8 = .ok (.iload_n 0, 1) := by decide +kernel
theorem d_Mo_widthOf_9 : decode prog_11_method_18_code 9 = .ok (.sipush 256, 3) := by decide +kernel
theorem d_Mo_widthOf_12 : decode prog_11_method_18_code 12 = .ok (.iload_n 1, 1) := by decide +kernel
theorem d_Mo_widthOf_13 : decode prog_11_method_18_code 13 = .ok (.ishr, 1) := by decide +kernel
theorem d_Mo_widthOf_14 : decode prog_11_method_18_code 14 = .ok (.iand, 1) := by decide +kernel
theorem d_Mo_widthOf_15 : decode prog_11_method_18_code 15 = .ok (.ifCond .ne 9, 3) := by decide +kernel
theorem d_Mo_widthOf_18 : decode prog_11_method_18_code 18 = .ok (.iinc 1 1, 3) := by decide +kernel
theorem d_Mo_widthOf_21 : decode prog_11_method_18_code 21 = .ok (.goto (-19), 3) := by decide +kernel
theorem d_Mo_widthOf_24 : decode prog_11_method_18_code 24 = .ok (.iload_n 1, 1) := by decide +kernel
theorem d_Mo_widthOf_25 : decode prog_11_method_18_code 25 = .ok (.ireturn, 1) := by decide +kernel
theorem d_Mo_readVint_0 : decode prog_11_method_19_code 0 = .ok (.aload_n 0, 1) := by decide +kernel
theorem d_Mo_readVint_1 : decode prog_11_method_19_code 1 = .ok (.getfield 115, 3) := by decide +kernel
theorem d_Mo_readVint_4 : decode prog_11_method_19_code 4 = .ok (.iload_n 1, 1) := by decide +kernel
theorem d_Mo_readVint_5 : decode prog_11_method_19_code 5 = .ok (.if_icmp .lt 6, 3) := by decide +kernel
theorem d_Mo_readVint_8 : decode prog_11_method_19_code 8 = .ok (.bipush (-2), 2) := by decide +kernel
theorem d_Mo_readVint_10 : decode prog_11_method_19_code 10 = .ok (.ireturn, 1) := by decide +kernel
theorem d_Mo_readVint_11 : decode prog_11_method_19_code 11 = .ok (.aload_n 0, 1) := by decide +kernel
theorem d_Mo_readVint_12 : decode prog_11_method_19_code 12 = .ok (.aload_n 0, 1) := by decide +kernel
theorem d_Mo_readVint_13 : decode prog_11_method_19_code 13 = .ok (.getfield 54, 3) := by decide +kernel
theorem d_Mo_readVint_16 : decode prog_11_method_19_code 16 = .ok (.aload_n 0, 1) := by decide +kernel
theorem d_Mo_readVint_17 : decode prog_11_method_19_code 17 = .ok (.getfield 115, 3) := by decide +kernel
theorem d_Mo_readVint_20 : decode prog_11_method_19_code 20 = .ok (.iaload, 1) := by decide +kernel
theorem d_Mo_readVint_21 : decode prog_11_method_19_code 21 = .ok (.invokestatic 118, 3) := by decide +kernel
theorem d_Mo_readVint_24 : decode prog_11_method_19_code 24 = .ok (.putfield 121, 3) := by decide +kernel
theorem d_Mo_readVint_27 : decode prog_11_method_19_code 27 = .ok (.aload_n 0, 1) := by decide +kernel
theorem d_Mo_readVint_28 : decode prog_11_method_19_code 28 = .ok (.getfield 121, 3) := by decide +kernel
theorem d_Mo_readVint_31 : decode prog_11_method_19_code 31 = .ok (.bipush 9, 2) := by decide +kernel
theorem d_Mo_readVint_33 : decode prog_11_method_19_code 33 = .ok (.if_icmp .ne 6, 3) := by decide +kernel
theorem d_Mo_readVint_36 : decode prog_11_method_19_code 36 = .ok (.bipush (-3), 2) := by decide +kernel
theorem d_Mo_readVint_38 : decode prog_11_method_19_code 38 = .ok (.ireturn, 1) := by decide +kernel
theorem d_Mo_readVint_39 : decode prog_11_method_19_code 39 = .ok (.aload_n 0, 1) := by decide +kernel
theorem d_Mo_readVint_40 : decode prog_11_method_19_code 40 = .ok (.getfield 115, 3) := by decide +kernel
theorem d_Mo_readVint_43 : decode prog_11_method_19_code 43 = .ok (.aload_n 0, 1) := by decide +kernel
theorem d_Mo_readVint_44 : decode prog_11_method_19_code 44 = .ok (.getfield 121, 3) := by decide +kernel
theorem d_Mo_readVint_47 : decode prog_11_method_19_code 47 = .ok (.iadd, 1) := by decide +kernel
theorem d_Mo_readVint_48 : decode prog_11_method_19_code 48 = .ok (.iload_n 1, 1) := by decide +kernel
theorem d_Mo_readVint_49 : decode prog_11_method_19_code 49 = .ok (.if_icmp .le 6, 3) := by decide +kernel
theorem d_Mo_readVint_52 : decode prog_11_method_19_code 52 = .ok (.bipush (-2), 2) := by decide +kernel
theorem d_Mo_readVint_54 : decode prog_11_method_19_code 54 = .ok (.ireturn, 1) := by decide +kernel
theorem d_Mo_readVint_55 : decode prog_11_method_19_code 55 = .ok (.aload_n 0, 1) := by decide +kernel
theorem d_Mo_readVint_56 : decode prog_11_method_19_code 56 = .ok (.aload_n 0, 1) := by decide +kernel
theorem d_Mo_readVint_57 : decode prog_11_method_19_code 57 = .ok (.getfield 54, 3) := by decide +kernel
theorem d_Mo_readVint_60 : decode prog_11_method_19_code 60 = .ok (.aload_n 0, 1) := by decide +kernel
theorem d_Mo_readVint_61 : decode prog_11_method_19_code 61 = .ok (.getfield 115, 3) := by decide +kernel
theorem d_Mo_readVint_64 : decode prog_11_method_19_code 64 = .ok (.iaload, 1) := by decide +kernel
theorem d_Mo_readVint_65 : decode prog_11_method_19_code 65 = .ok (.sipush 256, 3) := by decide +kernel
theorem d_Mo_readVint_68 : decode prog_11_method_19_code 68 = .ok (.aload_n 0, 1) := by decide +kernel
theorem d_Mo_readVint_69 : decode prog_11_method_19_code 69 = .ok (.getfield 121, 3) := by decide +kernel
theorem d_Mo_readVint_72 : decode prog_11_method_19_code 72 = .ok (.ishr, 1) := by decide +kernel
theorem d_Mo_readVint_73 : decode prog_11_method_19_code 73 = .ok (.iconst 1, 1) := by decide +kernel
theorem d_Mo_readVint_74 : decode prog_11_method_19_code 74 = .ok (.isub, 1) := by decide +kernel
theorem d_Mo_readVint_75 : decode prog_11_method_19_code 75 = .ok (.iand, 1) := by decide +kernel
theorem d_Mo_readVint_76 : decode prog_11_method_19_code 76 = .ok (.i2l, 1) := by decide +kernel
theorem d_Mo_readVint_77 : decode prog_11_method_19_code 77 = .ok (.putfield 124, 3) := by decide +kernel
theorem d_Mo_readVint_80 : decode prog_11_method_19_code 80 = .ok (.iconst 1, 1) := by decide +kernel
theorem d_Mo_readVint_81 : decode prog_11_method_19_code 81 = .ok (.istore_n 2, 1) := by decide +kernel
theorem d_Mo_readVint_82 : decode prog_11_method_19_code 82 = .ok (.iload_n 2, 1) := by decide +kernel
theorem d_Mo_readVint_83 : decode prog_11_method_19_code 83 = .ok (.aload_n 0, 1) := by decide +kernel
theorem d_Mo_readVint_84 : decode prog_11_method_19_code 84 = .ok (.getfield 121, 3) := by decide +kernel
theorem d_Mo_readVint_87 : decode prog_11_method_19_code 87 = .ok (.if_icmp .ge 33, 3) := by decide +kernel
theorem d_Mo_readVint_90 : decode prog_11_method_19_code 90 = .ok (.aload_n 0, 1) := by decide +kernel
theorem d_Mo_readVint_91 : decode prog_11_method_19_code 91 = .ok (.aload_n 0, 1) := by decide +kernel
theorem d_Mo_readVint_92 : decode prog_11_method_19_code 92 = .ok (.getfield 124, 3) := by decide +kernel
theorem d_Mo_readVint_95 : decode prog_11_method_19_code 95 = .ok (.bipush 8, 2) := by decide +kernel
theorem d_Mo_readVint_97 : decode prog_11_method_19_code 97 = .ok (.lshl, 1) := by decide +kernel
theorem d_Mo_readVint_98 : decode prog_11_method_19_code 98 = .ok (.aload_n 0, 1) := by decide +kernel
theorem d_Mo_readVint_99 : decode prog_11_method_19_code 99 = .ok (.getfield 54, 3) := by decide +kernel
theorem d_Mo_readVint_102 : decode prog_11_method_19_code 102 = .ok (.aload_n 0, 1) := by decide +kernel
theorem d_Mo_readVint_103 : decode prog_11_method_19_code 103 = .ok (.getfield 115, 3) := by decide +kernel
theorem d_Mo_readVint_106 : decode prog_11_method_19_code 106 = .ok (.iload_n 2, 1) := by decide +kernel
theorem d_Mo_readVint_107 : decode prog_11_method_19_code 107 = .ok (.iadd, 1) := by decide +kernel
theorem d_Mo_readVint_108 : decode prog_11_method_19_code 108 = .ok (.iaload, 1) := by decide +kernel
theorem d_Mo_readVint_109 : decode prog_11_method_19_code 109 = .ok (.i2l, 1) := by decide +kernel
theorem d_Mo_readVint_110 : decode prog_11_method_19_code 110 = .ok (.lor, 1) := by decide +kernel
theorem d_Mo_readVint_111 : decode prog_11_method_19_code 111 = .ok (.putfield 124, 3) := by decide +kernel
theorem d_Mo_readVint_114 : decode prog_11_method_19_code 114 = .ok (.iinc 2 1, 3) := by decide +kernel
theorem d_Mo_readVint_117 : decode prog_11_method_19_code 117 = .ok (.goto (-35), 3) := by decide +kernel
theorem d_Mo_readVint_120 : decode prog_11_method_19_code 120 = .ok (.aload_n 0, 1) := by decide +kernel
theorem d_Mo_readVint_121 : decode prog_11_method_19_code 121 = .ok (.aload_n 0, 1) := by decide +kernel
theorem d_Mo_readVint_122 : decode prog_11_method_19_code 122 = .ok (.getfield 124, 3) := by decide +kernel
theorem d_Mo_readVint_125 : decode prog_11_method_19_code 125 = .ok (.lconst 1, 1) := by decide +kernel
theorem d_Mo_readVint_126 : decode prog_11_method_19_code 126 = .ok (.bipush 7, 2) := by decide +kernel
theorem d_Mo_readVint_128 : decode prog_11_method_19_code 128 = .ok (.aload_n 0, 1) := by decide +kernel
theorem d_Mo_readVint_129 : decode prog_11_method_19_code 129 = .ok (.getfield 121, 3) := by decide +kernel
theorem d_Mo_readVint_132 : decode prog_11_method_19_code 132 = .ok (.imul, 1) := by decide +kernel
theorem d_Mo_readVint_133 : decode prog_11_method_19_code 133 = .ok (.lshl, 1) := by decide +kernel
theorem d_Mo_readVint_134 : decode prog_11_method_19_code 134 = .ok (.lconst 1, 1) := by decide +kernel
theorem d_Mo_readVint_135 : decode prog_11_method_19_code 135 = .ok (.lsub, 1) := by decide +kernel
theorem d_Mo_readVint_136 : decode prog_11_method_19_code 136 = .ok (.lcmp, 1) := by decide +kernel
theorem d_Mo_readVint_137 : decode prog_11_method_19_code 137 = .ok (.ifCond .ne 7, 3) := by decide +kernel
theorem d_Mo_readVint_140 : decode prog_11_method_19_code 140 = .ok (.iconst 1, 1) := by decide +kernel
theorem d_Mo_readVint_141 : decode prog_11_method_19_code 141 = .ok (.goto 4, 3) := by decide +kernel
theorem d_Mo_readVint_144 : decode prog_11_method_19_code 144 = .ok (.iconst 0, 1) := by decide +kernel
theorem d_Mo_readVint_145 : decode prog_11_method_19_code 145 = .ok (.putfield 128, 3) := by decide +kernel
theorem d_Mo_readVint_148 : decode prog_11_method_19_code 148 = .ok (.aload_n 0, 1) := by decide +kernel
theorem d_Mo_readVint_149 : decode prog_11_method_19_code 149 = .ok (.aload_n 0, 1) := by decide +kernel
theorem d_Mo_readVint_150 : decode prog_11_method_19_code 150 = .ok (.getfield 115, 3) := by decide +kernel
theorem d_Mo_readVint_153 : decode prog_11_method_19_code 153 = .ok (.aload_n 0, 1) := by decide +kernel
theorem d_Mo_readVint_154 : decode prog_11_method_19_code 154 = .ok (.getfield 121, 3) := by decide +kernel
theorem d_Mo_readVint_157 : decode prog_11_method_19_code 157 = .ok (.iadd, 1) := by decide +kernel
theorem d_Mo_readVint_158 : decode prog_11_method_19_code 158 = .ok (.putfield 115, 3) := by decide +kernel
theorem d_Mo_readVint_161 : decode prog_11_method_19_code 161 = .ok (.iconst 0, 1) := by decide +kernel
theorem d_Mo_readVint_162 : decode prog_11_method_19_code 162 = .ok (.ireturn, 1) := by decide +kernel
theorem d_Mo_readId_0 : decode prog_11_method_20_code 0 = .ok (.aload_n 0, 1) := by decide +kernel
theorem d_Mo_readId_1 : decode prog_11_method_20_code 1 = .ok (.getfield 54, 3) := by decide +kernel
theorem d_Mo_readId_4 : decode prog_11_method_20_code 4 = .ok (.aload_n 0, 1) := by decide +kernel
theorem d_Mo_readId_5 : decode prog_11_method_20_code 5 = .ok (.getfield 115, 3) := by decide +kernel
theorem d_Mo_readId_8 : decode prog_11_method_20_code 8 = .ok (.iaload, 1) := by decide +kernel
theorem d_Mo_readId_9 : decode prog_11_method_20_code 9 = .ok (.bipush 16, 2) := by decide +kernel
theorem d_Mo_readId_11 : decode prog_11_method_20_code 11 = .ok (.if_icmp .ge 6, 3) := by decide +kernel
theorem d_Mo_readId_14 : decode prog_11_method_20_code 14 = .ok (.bipush (-3), 2) := by decide +kernel
theorem d_Mo_readId_16 : decode prog_11_method_20_code 16 = .ok (.ireturn, 1) := by decide +kernel
theorem d_Mo_readId_17 : decode prog_11_method_20_code 17 = .ok (.aload_n 0, 1) := by decide +kernel
theorem d_Mo_readId_18 : decode prog_11_method_20_code 18 = .ok (.getfield 54, 3) := by decide +kernel
theorem d_Mo_readId_21 : decode prog_11_method_20_code 21 = .ok (.aload_n 0, 1) := by decide +kernel
theorem d_Mo_readId_22 : decode prog_11_method_20_code 22 = .ok (.getfield 115, 3) := by decide +kernel
theorem d_Mo_readId_25 : decode prog_11_method_20_code 25 = .ok (.iaload, 1) := by decide +kernel
theorem d_Mo_readId_26 : decode prog_11_method_20_code 26 = .ok (.invokestatic 118, 3) := by decide +kernel
theorem d_Mo_readId_29 : decode prog_11_method_20_code 29 = .ok (.istore_n 2, 1) := by decide +kernel
theorem d_Mo_readId_30 : decode prog_11_method_20_code 30 = .ok (.aload_n 0, 1) := by decide +kernel
theorem d_Mo_readId_31 : decode prog_11_method_20_code 31 = .ok (.getfield 115, 3) := by decide +kernel
theorem d_Mo_readId_34 : decode prog_11_method_20_code 34 = .ok (.iload_n 2, 1) := by decide +kernel
theorem d_Mo_readId_35 : decode prog_11_method_20_code 35 = .ok (.iadd, 1) := by decide +kernel
theorem d_Mo_readId_36 : decode prog_11_method_20_code 36 = .ok (.iload_n 1, 1) := by decide +kernel
theorem d_Mo_readId_37 : decode prog_11_method_20_code 37 = .ok (.if_icmp .le 6, 3) := by decide +kernel
theorem d_Mo_readId_40 : decode prog_11_method_20_code 40 = .ok (.bipush (-2), 2) := by decide +kernel
theorem d_Mo_readId_42 : decode prog_11_method_20_code 42 = .ok (.ireturn, 1) := by decide +kernel
theorem d_Mo_readId_43 : decode prog_11_method_20_code 43 = .ok (.iconst 0, 1) := by decide +kernel
theorem d_Mo_readId_44 : decode prog_11_method_20_code 44 = .ok (.istore_n 3, 1) := by decide +kernel
theorem d_Mo_readId_45 : decode prog_11_method_20_code 45 = .ok (.iconst 0, 1) := by decide +kernel
theorem d_Mo_readId_46 : decode prog_11_method_20_code 46 = .ok (.istore 4, 2) := by decide +kernel
theorem d_Mo_readId_48 : decode prog_11_method_20_code 48 = .ok (.iload 4, 2) := by decide +kernel
theorem d_Mo_readId_50 : decode prog_11_method_20_code 50 = .ok (.iload_n 2, 1) := by decide +kernel
theorem d_Mo_readId_51 : decode prog_11_method_20_code 51 = .ok (.if_icmp .ge 27, 3) := by decide +kernel
theorem d_Mo_readId_54 : decode prog_11_method_20_code 54 = .ok (.iload_n 3, 1) := by decide +kernel
theorem d_Mo_readId_55 : decode prog_11_method_20_code 55 = .ok (.bipush 8, 2) := by decide +kernel
theorem d_Mo_readId_57 : decode prog_11_method_20_code 57 = .ok (.ishl, 1) := by decide +kernel
theorem d_Mo_readId_58 : decode prog_11_method_20_code 58 = .ok (.aload_n 0, 1) := by decide +kernel
theorem d_Mo_readId_59 : decode prog_11_method_20_code 59 = .ok (.getfield 54, 3) := by decide +kernel
theorem d_Mo_readId_62 : decode prog_11_method_20_code 62 = .ok (.aload_n 0, 1) := by decide +kernel
theorem d_Mo_readId_63 : decode prog_11_method_20_code 63 = .ok (.getfield 115, 3) := by decide +kernel
theorem d_Mo_readId_66 : decode prog_11_method_20_code 66 = .ok (.iload 4, 2) := by decide +kernel
theorem d_Mo_readId_68 : decode prog_11_method_20_code 68 = .ok (.iadd, 1) := by decide +kernel
theorem d_Mo_readId_69 : decode prog_11_method_20_code 69 = .ok (.iaload, 1) := by decide +kernel
theorem d_Mo_readId_70 : decode prog_11_method_20_code 70 = .ok (.ior, 1) := by decide +kernel
theorem d_Mo_readId_71 : decode prog_11_method_20_code 71 = .ok (.istore_n 3, 1) := by decide +kernel
theorem d_Mo_readId_72 : decode prog_11_method_20_code 72 = .ok (.iinc 4 1, 3) := by decide +kernel
theorem d_Mo_readId_75 : decode prog_11_method_20_code 75 = .ok (.goto (-27), 3) := by decide +kernel
theorem d_Mo_readId_78 : decode prog_11_method_20_code 78 = .ok (.aload_n 0, 1) := by decide +kernel
theorem d_Mo_readId_79 : decode prog_11_method_20_code 79 = .ok (.aload_n 0, 1) := by decide +kernel
theorem d_Mo_readId_80 : decode prog_11_method_20_code 80 = .ok (.getfield 115, 3) := by decide +kernel
theorem d_Mo_readId_83 : decode prog_11_method_20_code 83 = .ok (.iload_n 2, 1) := by decide +kernel
theorem d_Mo_readId_84 : decode prog_11_method_20_code 84 = .ok (.iadd, 1) := by decide +kernel
theorem d_Mo_readId_85 : decode prog_11_method_20_code 85 = .ok (.putfield 115, 3) := by decide +kernel
theorem d_Mo_readId_88 : decode prog_11_method_20_code 88 = .ok (.iload_n 3, 1) := by decide +kernel
theorem d_Mo_readId_89 : decode prog_11_method_20_code 89 = .ok (.ireturn, 1) := by decide +kernel
theorem d_Mo_masterId_0 : decode prog_11_method_21_code 0 = .ok (.aload_n 0, 1) := by decide +kernel
theorem d_Mo_masterId_1 : decode prog_11_method_21_code 1 = .ok (.getfield 64, 3) := by decide +kernel
theorem d_Mo_masterId_4 : decode prog_11_method_21_code 4 = .ok (.aload_n 0, 1) := by decide +kernel
theorem d_Mo_masterId_5 : decode prog_11_method_21_code 5 = .ok (.getfield 132, 3) := by decide +kernel
theorem d_Mo_masterId_8 : decode prog_11_method_21_code 8 = .ok (.iaload, 1) := by decide +kernel
theorem d_Mo_masterId_9 : decode prog_11_method_21_code 9 = .ok (.ifCond .ge 7, 3) := by decide +kernel
theorem d_Mo_masterId_12 : decode prog_11_method_21_code 12 = .ok (.iconst 0, 1) := by decide +kernel
theorem d_Mo_masterId_13 : decode prog_11_method_21_code 13 = .ok (.goto 17, 3) := by decide +kernel
theorem d_Mo_masterId_16 : decode prog_11_method_21_code 16 = .ok (.aload_n 0, 1) := by decide +kernel
theorem d_Mo_masterId_17 : decode prog_11_method_21_code 17 = .ok (.getfield 7, 3) := by decide +kernel
theorem d_Mo_masterId_20 : decode prog_11_method_21_code 20 = .ok (.aload_n 0, 1) := by decide +kernel
theorem d_Mo_masterId_21 : decode prog_11_method_21_code 21 = .ok (.getfield 64, 3) := by decide +kernel
theorem d_Mo_masterId_24 : decode prog_11_method_21_code 24 = .ok (.aload_n 0, 1) := by decide +kernel
theorem d_Mo_masterId_25 : decode prog_11_method_21_code 25 = .ok (.getfield 132, 3) := by decide +kernel
theorem d_Mo_masterId_28 : decode prog_11_method_21_code 28 = .ok (.iaload, 1) := by decide +kernel
theorem d_Mo_masterId_29 : decode prog_11_method_21_code 29 = .ok (.iaload, 1) := by decide +kernel
theorem d_Mo_masterId_30 : decode prog_11_method_21_code 30 = .ok (.ireturn, 1) := by decide +kernel
theorem d_Mo_crcStep_0 : decode prog_11_method_22_code 0 = .ok (.iload_n 0, 1) := by decide +kernel
theorem d_Mo_crcStep_1 : decode prog_11_method_22_code 1 = .ok (.iload_n 1, 1) := by decide +kernel
theorem d_Mo_crcStep_2 : decode prog_11_method_22_code 2 = .ok (.ixor, 1) := by decide +kernel
theorem d_Mo_crcStep_3 : decode prog_11_method_22_code 3 = .ok (.istore_n 2, 1) := by decide +kernel
theorem d_Mo_crcStep_4 : decode prog_11_method_22_code 4 = .ok (.iconst 0, 1) := by decide +kernel
theorem d_Mo_crcStep_5 : decode prog_11_method_22_code 5 = .ok (.istore_n 3, 1) := by decide +kernel
theorem d_Mo_crcStep_6 : decode prog_11_method_22_code 6 = .ok (.iload_n 3, 1) := by decide +kernel
theorem d_Mo_crcStep_7 : decode prog_11_method_22_code 7 = .ok (.bipush 8, 2) := by decide +kernel
theorem d_Mo_crcStep_9 : decode prog_11_method_22_code 9 = .ok (.if_icmp .ge 33, 3) := by decide +kernel
theorem d_Mo_crcStep_12 : decode prog_11_method_22_code 12 = .ok (.iload_n 2, 1) := by decide +kernel
theorem d_Mo_crcStep_13 : decode prog_11_method_22_code 13 = .ok (.iconst 1, 1) := by decide +kernel
theorem d_Mo_crcStep_14 : decode prog_11_method_22_code 14 = .ok (.iand, 1) := by decide +kernel
theorem d_Mo_crcStep_15 : decode prog_11_method_22_code 15 = .ok (.istore 4, 2) := by decide +kernel
theorem d_Mo_crcStep_17 : decode prog_11_method_22_code 17 = .ok (.iload_n 2, 1) := by decide +kernel
theorem d_Mo_crcStep_18 : decode prog_11_method_22_code 18 = .ok (.iconst 1, 1) := by decide +kernel
theorem d_Mo_crcStep_19 : decode prog_11_method_22_code 19 = .ok (.iushr, 1) := by decide +kernel
theorem d_Mo_crcStep_20 : decode prog_11_method_22_code 20 = .ok (.istore_n 2, 1) := by decide +kernel
theorem d_Mo_crcStep_21 : decode prog_11_method_22_code 21 = .ok (.iload 4, 2) := by decide +kernel
theorem d_Mo_crcStep_23 : decode prog_11_method_22_code 23 = .ok (.iconst 1, 1) := by decide +kernel
theorem d_Mo_crcStep_24 : decode prog_11_method_22_code 24 = .ok (.if_icmp .ne 10, 3) := by decide +kernel
theorem d_Mo_crcStep_27 : decode prog_11_method_22_code 27 = .ok (.iload_n 2, 1) := by decide +kernel
theorem d_Mo_crcStep_28 : decode prog_11_method_22_code 28 = .ok (.ldc 135, 2) := by decide +kernel
theorem d_Mo_crcStep_30 : decode prog_11_method_22_code 30 = .ok (.ixor, 1) := by decide +kernel
theorem d_Mo_crcStep_31 : decode prog_11_method_22_code 31 = .ok (.goto 4, 3) := by decide +kernel
theorem d_Mo_crcStep_34 : decode prog_11_method_22_code 34 = .ok (.iload_n 2, 1) := by decide +kernel
theorem d_Mo_crcStep_35 : decode prog_11_method_22_code 35 = .ok (.istore_n 2, 1) := by decide +kernel
theorem d_Mo_crcStep_36 : decode prog_11_method_22_code 36 = .ok (.iinc 3 1, 3) := by decide +kernel
theorem d_Mo_crcStep_39 : decode prog_11_method_22_code 39 = .ok (.goto (-33), 3) := by decide +kernel
theorem d_Mo_crcStep_42 : decode prog_11_method_22_code 42 = .ok (.iload_n 2, 1) := by decide +kernel
theorem d_Mo_crcStep_43 : decode prog_11_method_22_code 43 = .ok (.ireturn, 1) := by decide +kernel
theorem d_Mo_readNumber_0 : decode prog_11_method_23_code 0 = .ok (.iload_n 1, 1) := by decide +kernel
theorem d_Mo_readNumber_1 : decode prog_11_method_23_code 1 = .ok (.aload_n 0, 1) := by decide +kernel
theorem d_Mo_readNumber_2 : decode prog_11_method_23_code 2 = .ok (.getfield 115, 3) := by decide +kernel
theorem d_Mo_readNumber_5 : decode prog_11_method_23_code 5 = .ok (.isub, 1) := by decide +kernel
theorem d_Mo_readNumber_6 : decode prog_11_method_23_code 6 = .ok (.bipush 8, 2) := by decide +kernel
theorem d_Mo_readNumber_8 : decode prog_11_method_23_code 8 = .ok (.if_icmp .le 5, 3) := by decide +kernel
theorem d_Mo_readNumber_11 : decode prog_11_method_23_code 11 = .ok (.iconst 0, 1) := by decide +kernel
theorem d_Mo_readNumber_12 : decode prog_11_method_23_code 12 = .ok (.ireturn, 1) := by decide +kernel
theorem d_Mo_readNumber_13 : decode prog_11_method_23_code 13 = .ok (.lconst 0, 1) := by decide +kernel
theorem d_Mo_readNumber_14 : decode prog_11_method_23_code 14 = .ok (.lstore_n 2, 1) := by decide +kernel
theorem d_Mo_readNumber_15 : decode prog_11_method_23_code 15 = .ok (.aload_n 0, 1) := by decide +kernel
theorem d_Mo_readNumber_16 : decode prog_11_method_23_code 16 = .ok (.getfield 115, 3) := by decide +kernel
theorem d_Mo_readNumber_19 : decode prog_11_method_23_code 19 = .ok (.istore 4, 2) := by decide +kernel
theorem d_Mo_readNumber_21 : decode prog_11_method_23_code 21 = .ok (.iload 4, 2) := by decide +kernel
theorem d_Mo_readNumber_23 : decode prog_11_method_23_code 23 = .ok (.iload_n 1, 1) := by decide +kernel
theorem d_Mo_readNumber_24 : decode prog_11_method_23_code 24 = .ok (.if_icmp .ge 23, 3) := by decide +kernel
theorem d_Mo_readNumber_27 : decode prog_11_method_23_code 27 = .ok (.lload_n 2, 1) := by decide +kernel
theorem d_Mo_readNumber_28 : decode prog_11_method_23_code 28 = .ok (.bipush 8, 2) := by decide +kernel
theorem d_Mo_readNumber_30 : decode prog_11_method_23_code 30 = .ok (.lshl, 1) := by decide +kernel
theorem d_Mo_readNumber_31 : decode prog_11_method_23_code 31 = .ok (.aload_n 0, 1) := by decide +kernel
theorem d_Mo_readNumber_32 : decode prog_11_method_23_code 32 = .ok (.getfield 54, 3) := by decide +kernel
theorem d_Mo_readNumber_35 : decode prog_11_method_23_code 35 = .ok (.iload 4, 2) := by decide +kernel
theorem d_Mo_readNumber_37 : decode prog_11_method_23_code 37 = .ok (.iaload, 1) := by decide +kernel
theorem d_Mo_readNumber_38 : decode prog_11_method_23_code 38 = .ok (.i2l, 1) := by decide +kernel
theorem d_Mo_readNumber_39 : decode prog_11_method_23_code 39 = .ok (.lor, 1) := by decide +kernel
theorem d_Mo_readNumber_40 : decode prog_11_method_23_code 40 = .ok (.lstore_n 2, 1) := by decide +kernel
theorem d_Mo_readNumber_41 : decode prog_11_method_23_code 41 = .ok (.iinc 4 1, 3) := by decide +kernel
theorem d_Mo_readNumber_44 : decode prog_11_method_23_code 44 = .ok (.goto (-23), 3) := by decide +kernel
theorem d_Mo_readNumber_47 : decode prog_11_method_23_code 47 = .ok (.aload_n 0, 1) := by decide +kernel
theorem d_Mo_readNumber_48 : decode prog_11_method_23_code 48 = .ok (.getfield 16, 3) := by decide +kernel
theorem d_Mo_readNumber_51 : decode prog_11_method_23_code 51 = .ok (.aload_n 0, 1) := by decide +kernel
theorem d_Mo_readNumber_52 : decode prog_11_method_23_code 52 = .ok (.getfield 86, 3) := by decide +kernel
theorem d_Mo_readNumber_55 : decode prog_11_method_23_code 55 = .ok (.lload_n 2, 1) := by decide +kernel
theorem d_Mo_readNumber_56 : decode prog_11_method_23_code 56 = .ok (.lastore, 1) := by decide +kernel
theorem d_Mo_readNumber_57 : decode prog_11_method_23_code 57 = .ok (.iconst 1, 1) := by decide +kernel
theorem d_Mo_readNumber_58 : decode prog_11_method_23_code 58 = .ok (.ireturn, 1) := by decide +kernel
theorem d_Mo_readText_0 : decode prog_11_method_24_code 0 = .ok (.iconst 0, 1) := by decide +kernel
theorem d_Mo_readText_1 : decode prog_11_method_24_code 1 = .ok (.istore_n 2, 1) := by decide +kernel
theorem d_Mo_readText_2 : decode prog_11_method_24_code 2 = .ok (.aload_n 0, 1) := by decide +kernel
theorem d_Mo_readText_3 : decode prog_11_method_24_code 3 = .ok (.getfield 115, 3) := by decide +kernel
theorem d_Mo_readText_6 : decode prog_11_method_24_code 6 = .ok (.iload_n 2, 1) := by decide +kernel
theorem d_Mo_readText_7 : decode prog_11_method_24_code 7 = .ok (.iadd, 1) := by decide +kernel
theorem d_Mo_readText_8 : decode prog_11_method_24_code 8 = .ok (.iload_n 1, 1) := by decide +kernel
theorem d_Mo_readText_9 : decode prog_11_method_24_code 9 = .ok (.if_icmp .ge 70, 3) := by decide +kernel
theorem d_Mo_readText_12 : decode prog_11_method_24_code 12 = .ok (.aload_n 0, 1) := by decide +kernel
theorem d_Mo_readText_13 : decode prog_11_method_24_code 13 = .ok (.getfield 54, 3) := by decide +kernel
theorem d_Mo_readText_16 : decode prog_11_method_24_code 16 = .ok (.aload_n 0, 1) := by decide +kernel
theorem d_Mo_readText_17 : decode prog_11_method_24_code 17 = .ok (.getfield 115, 3) := by decide +kernel
theorem d_Mo_readText_20 : decode prog_11_method_24_code 20 = .ok (.iload_n 2, 1) := by decide +kernel
theorem d_Mo_readText_21 : decode prog_11_method_24_code 21 = .ok (.iadd, 1) := by decide +kernel
theorem d_Mo_readText_22 : decode prog_11_method_24_code 22 = .ok (.iaload, 1) := by decide +kernel
theorem d_Mo_readText_23 : decode prog_11_method_24_code 23 = .ok (.ifCond .eq 56, 3) := by decide +kernel
theorem d_Mo_readText_26 : decode prog_11_method_24_code 26 = .ok (.aload_n 0, 1) := by decide +kernel
theorem d_Mo_readText_27 : decode prog_11_method_24_code 27 = .ok (.getfield 54, 3) := by decide +kernel
theorem d_Mo_readText_30 : decode prog_11_method_24_code 30 = .ok (.aload_n 0, 1) := by decide +kernel
theorem d_Mo_readText_31 : decode prog_11_method_24_code 31 = .ok (.getfield 115, 3) := by decide +kernel
theorem d_Mo_readText_34 : decode prog_11_method_24_code 34 = .ok (.iload_n 2, 1) := by decide +kernel
theorem d_Mo_readText_35 : decode prog_11_method_24_code 35 = .ok (.iadd, 1) := by decide +kernel
theorem d_Mo_readText_36 : decode prog_11_method_24_code 36 = .ok (.iaload, 1) := by decide +kernel
theorem d_Mo_readText_37 : decode prog_11_method_24_code 37 = .ok (.istore_n 3, 1) := by decide +kernel
theorem d_Mo_readText_38 : decode prog_11_method_24_code 38 = .ok (.iload_n 2, 1) := by decide +kernel
theorem d_Mo_readText_39 : decode prog_11_method_24_code 39 = .ok (.bipush 16, 2) := by decide +kernel
theorem d_Mo_readText_41 : decode prog_11_method_24_code 41 = .ok (.if_icmp .eq 15, 3) := by decide +kernel
theorem d_Mo_readText_44 : decode prog_11_method_24_code 44 = .ok (.iload_n 3, 1) := by decide +kernel
theorem d_Mo_readText_45 : decode prog_11_method_24_code 45 = .ok (.bipush 32, 2) := by decide +kernel
theorem d_Mo_readText_47 : decode prog_11_method_24_code 47 = .ok (.if_icmp .lt 9, 3) := by decide +kernel
theorem d_Mo_readText_50 : decode prog_11_method_24_code 50 = .ok (.iload_n 3, 1) := by decide +kernel
theorem d_Mo_readText_51 : decode prog_11_method_24_code 51 = .ok (.bipush 126, 2) := by decide +kernel
theorem d_Mo_readText_53 : decode prog_11_method_24_code 53 = .ok (.if_icmp .le 5, 3) := by decide +kernel
theorem d_Mo_readText_56 : decode prog_11_method_24_code 56 = .ok (.iconst 0, 1) := by decide +kernel
theorem d_Mo_readText_57 : decode prog_11_method_24_code 57 = .ok (.ireturn, 1) := by decide +kernel
theorem d_Mo_readText_58 : decode prog_11_method_24_code 58 = .ok (.aload_n 0, 1) := by decide +kernel
theorem d_Mo_readText_59 : decode prog_11_method_24_code 59 = .ok (.getfield 23, 3) := by decide +kernel
theorem d_Mo_readText_62 : decode prog_11_method_24_code 62 = .ok (.bipush 16, 2) := by decide +kernel
theorem d_Mo_readText_64 : decode prog_11_method_24_code 64 = .ok (.aload_n 0, 1) := by decide +kernel
theorem d_Mo_readText_65 : decode prog_11_method_24_code 65 = .ok (.getfield 86, 3) := by decide +kernel
theorem d_Mo_readText_68 : decode prog_11_method_24_code 68 = .ok (.imul, 1) := by decide +kernel
theorem d_Mo_readText_69 : decode prog_11_method_24_code 69 = .ok (.iload_n 2, 1) := by decide +kernel
theorem d_Mo_readText_70 : decode prog_11_method_24_code 70 = .ok (.iadd, 1) := by decide +kernel
theorem d_Mo_readText_71 : decode prog_11_method_24_code 71 = .ok (.iload_n 3, 1) := by decide +kernel
theorem d_Mo_readText_72 : decode prog_11_method_24_code 72 = .ok (.iastore, 1) := by decide +kernel
theorem d_Mo_readText_73 : decode prog_11_method_24_code 73 = .ok (.iinc 2 1, 3) := by decide +kernel
theorem d_Mo_readText_76 : decode prog_11_method_24_code 76 = .ok (.goto (-74), 3) := by decide +kernel
theorem d_Mo_readText_79 : decode prog_11_method_24_code 79 = .ok (.aload_n 0, 1) := by decide +kernel
theorem d_Mo_readText_80 : decode prog_11_method_24_code 80 = .ok (.getfield 20, 3) := by decide +kernel
theorem d_Mo_readText_83 : decode prog_11_method_24_code 83 = .ok (.aload_n 0, 1) := by decide +kernel
theorem d_Mo_readText_84 : decode prog_11_method_24_code 84 = .ok (.getfield 86, 3) := by decide +kernel
theorem d_Mo_readText_87 : decode prog_11_method_24_code 87 = .ok (.iload_n 2, 1) := by decide +kernel
theorem d_Mo_readText_88 : decode prog_11_method_24_code 88 = .ok (.iastore, 1) := by decide +kernel
theorem d_Mo_readText_89 : decode prog_11_method_24_code 89 = .ok (.aload_n 0, 1) := by decide +kernel
theorem d_Mo_readText_90 : decode prog_11_method_24_code 90 = .ok (.getfield 115, 3) := by decide +kernel
theorem d_Mo_readText_93 : decode prog_11_method_24_code 93 = .ok (.iload_n 2, 1) := by decide +kernel
theorem d_Mo_readText_94 : decode prog_11_method_24_code 94 = .ok (.iadd, 1) := by decide +kernel
theorem d_Mo_readText_95 : decode prog_11_method_24_code 95 = .ok (.istore_n 3, 1) := by decide +kernel
theorem d_Mo_readText_96 : decode prog_11_method_24_code 96 = .ok (.iload_n 3, 1) := by decide +kernel
theorem d_Mo_readText_97 : decode prog_11_method_24_code 97 = .ok (.iload_n 1, 1) := by decide +kernel
theorem d_Mo_readText_98 : decode prog_11_method_24_code 98 = .ok (.if_icmp .ge 20, 3) := by decide +kernel
theorem d_Mo_readText_101 : decode prog_11_method_24_code 101 = .ok (.aload_n 0, 1) := by decide +kernel
theorem d_Mo_readText_102 : decode prog_11_method_24_code 102 = .ok (.getfield 54, 3) := by decide +kernel
theorem d_Mo_readText_105 : decode prog_11_method_24_code 105 = .ok (.iload_n 3, 1) := by decide +kernel
theorem d_Mo_readText_106 : decode prog_11_method_24_code 106 = .ok (.iaload, 1) := by decide +kernel
theorem d_Mo_readText_107 : decode prog_11_method_24_code 107 = .ok (.ifCond .eq 5, 3) := by decide +kernel
theorem d_Mo_readText_110 : decode prog_11_method_24_code 110 = .ok (.iconst 0, 1) := by decide +kernel
theorem d_Mo_readText_111 : decode prog_11_method_24_code 111 = .ok (.ireturn, 1) := by decide +kernel
theorem d_Mo_readText_112 : decode prog_11_method_24_code 112 = .ok (.iinc 3 1, 3) := by decide +kernel
theorem d_Mo_readText_115 : decode prog_11_method_24_code 115 = .ok (.goto (-19), 3) := by decide +kernel
theorem d_Mo_readText_118 : decode prog_11_method_24_code 118 = .ok (.iconst 1, 1) := by decide +kernel
theorem d_Mo_readText_119 : decode prog_11_method_24_code 119 = .ok (.ireturn, 1) := by decide +kernel
theorem d_Mo_readSum_0 : decode prog_11_method_25_code 0 = .ok (.iload_n 1, 1) := by decide +kernel
theorem d_Mo_readSum_1 : decode prog_11_method_25_code 1 = .ok (.aload_n 0, 1) := by decide +kernel
theorem d_Mo_readSum_2 : decode prog_11_method_25_code 2 = .ok (.getfield 115, 3) := by decide +kernel
theorem d_Mo_readSum_5 : decode prog_11_method_25_code 5 = .ok (.isub, 1) := by decide +kernel
theorem d_Mo_readSum_6 : decode prog_11_method_25_code 6 = .ok (.iconst 4, 1) := by decide +kernel
theorem d_Mo_readSum_7 : decode prog_11_method_25_code 7 = .ok (.if_icmp .eq 5, 3) := by decide +kernel
theorem d_Mo_readSum_10 : decode prog_11_method_25_code 10 = .ok (.iconst 0, 1) := by decide +kernel
theorem d_Mo_readSum_11 : decode prog_11_method_25_code 11 = .ok (.ireturn, 1) := by decide +kernel
theorem d_Mo_readSum_12 : decode prog_11_method_25_code 12 = .ok (.iconst (-1), 1) := by decide +kernel
theorem d_Mo_readSum_13 : decode prog_11_method_25_code 13 = .ok (.istore_n 3, 1) := by decide +kernel
theorem d_Mo_readSum_14 : decode prog_11_method_25_code 14 = .ok (.iload_n 1, 1) := by decide +kernel
theorem d_Mo_readSum_15 : decode prog_11_method_25_code 15 = .ok (.istore 4, 2) := by decide +kernel
theorem d_Mo_readSum_17 : decode prog_11_method_25_code 17 = .ok (.iload 4, 2) := by decide +kernel
theorem d_Mo_readSum_19 : decode prog_11_method_25_code 19 = .ok (.iload_n 2, 1) := by decide +kernel
theorem d_Mo_readSum_20 : decode prog_11_method_25_code 20 = .ok (.if_icmp .ge 21, 3) := by decide +kernel
theorem d_Mo_readSum_23 : decode prog_11_method_25_code 23 = .ok (.iload_n 3, 1) := by decide +kernel
theorem d_Mo_readSum_24 : decode prog_11_method_25_code 24 = .ok (.aload_n 0, 1) := by decide +kernel
theorem d_Mo_readSum_25 : decode prog_11_method_25_code 25 = .ok (.getfield 54, 3) := by decide +kernel
theorem d_Mo_readSum_28 : decode prog_11_method_25_code 28 = .ok (.iload 4, 2) := by decide +kernel
theorem d_Mo_readSum_30 : decode prog_11_method_25_code 30 = .ok (.iaload, 1) := by decide +kernel
theorem d_Mo_readSum_31 : decode prog_11_method_25_code 31 = .ok (.invokestatic 136, 3) := by decide +kernel
theorem d_Mo_readSum_34 : decode prog_11_method_25_code 34 = .ok (.istore_n 3, 1) := by decide +kernel
theorem d_Mo_readSum_35 : decode prog_11_method_25_code 35 = .ok (.iinc 4 1, 3) := by decide +kernel
theorem d_Mo_readSum_38 : decode prog_11_method_25_code 38 = .ok (.goto (-21), 3) := by decide +kernel
theorem d_Mo_readSum_41 : decode prog_11_method_25_code 41 = .ok (.iload_n 3, 1) := by decide +kernel
theorem d_Mo_readSum_42 : decode prog_11_method_25_code 42 = .ok (.iconst (-1), 1) := by decide +kernel
theorem d_Mo_readSum_43 : decode prog_11_method_25_code 43 = .ok (.ixor, 1) := by decide +kernel
theorem d_Mo_readSum_44 : decode prog_11_method_25_code 44 = .ok (.istore_n 3, 1) := by decide +kernel
theorem d_Mo_readSum_45 : decode prog_11_method_25_code 45 = .ok (.iconst 0, 1) := by decide +kernel
theorem d_Mo_readSum_46 : decode prog_11_method_25_code 46 = .ok (.istore 4, 2) := by decide +kernel
theorem d_Mo_readSum_48 : decode prog_11_method_25_code 48 = .ok (.iload 4, 2) := by decide +kernel
theorem d_Mo_readSum_50 : decode prog_11_method_25_code 50 = .ok (.iconst 4, 1) := by decide +kernel
theorem d_Mo_readSum_51 : decode prog_11_method_25_code 51 = .ok (.if_icmp .ge 37, 3) := by decide +kernel
theorem d_Mo_readSum_54 : decode prog_11_method_25_code 54 = .ok (.aload_n 0, 1) := by decide +kernel
theorem d_Mo_readSum_55 : decode prog_11_method_25_code 55 = .ok (.getfield 54, 3) := by decide +kernel
theorem d_Mo_readSum_58 : decode prog_11_method_25_code 58 = .ok (.aload_n 0, 1) := by decide +kernel
theorem d_Mo_readSum_59 : decode prog_11_method_25_code 59 = .ok (.getfield 115, 3) := by decide +kernel
theorem d_Mo_readSum_62 : decode prog_11_method_25_code 62 = .ok (.iload 4, 2) := by decide +kernel
theorem d_Mo_readSum_64 : decode prog_11_method_25_code 64 = .ok (.iadd, 1) := by decide +kernel
theorem d_Mo_readSum_65 : decode prog_11_method_25_code 65 = .ok (.iaload, 1) := by decide +kernel
theorem d_Mo_readSum_66 : decode prog_11_method_25_code 66 = .ok (.iload_n 3, 1) := by decide +kernel
theorem d_Mo_readSum_67 : decode prog_11_method_25_code 67 = .ok (.bipush 8, 2) := by decide +kernel
theorem d_Mo_readSum_69 : decode prog_11_method_25_code 69 = .ok (.iload 4, 2) := by decide +kernel
theorem d_Mo_readSum_71 : decode prog_11_method_25_code 71 = .ok (.imul, 1) := by decide +kernel
theorem d_Mo_readSum_72 : decode prog_11_method_25_code 72 = .ok (.ishr, 1) := by decide +kernel
theorem d_Mo_readSum_73 : decode prog_11_method_25_code 73 = .ok (.sipush 255, 3) := by decide +kernel
theorem d_Mo_readSum_76 : decode prog_11_method_25_code 76 = .ok (.iand, 1) := by decide +kernel
theorem d_Mo_readSum_77 : decode prog_11_method_25_code 77 = .ok (.if_icmp .eq 5, 3) := by decide +kernel
theorem d_Mo_readSum_80 : decode prog_11_method_25_code 80 = .ok (.iconst 0, 1) := by decide +kernel
theorem d_Mo_readSum_81 : decode prog_11_method_25_code 81 = .ok (.ireturn, 1) := by decide +kernel
theorem d_Mo_readSum_82 : decode prog_11_method_25_code 82 = .ok (.iinc 4 1, 3) := by decide +kernel
theorem d_Mo_readSum_85 : decode prog_11_method_25_code 85 = .ok (.goto (-37), 3) := by decide +kernel
theorem d_Mo_readSum_88 : decode prog_11_method_25_code 88 = .ok (.iconst 1, 1) := by decide +kernel
theorem d_Mo_readSum_89 : decode prog_11_method_25_code 89 = .ok (.ireturn, 1) := by decide +kernel
theorem d_Mo_readSize_0 : decode prog_11_method_26_code 0 = .ok (.iload_n 1, 1) := by decide +kernel
theorem d_Mo_readSize_1 : decode prog_11_method_26_code 1 = .ok (.iconst 1, 1) := by decide +kernel
theorem d_Mo_readSize_2 : decode prog_11_method_26_code 2 = .ok (.if_icmp .ne 89, 3) := by decide +kernel
theorem d_Mo_readSize_5 : decode prog_11_method_26_code 5 = .ok (.iconst 0, 1) := by decide +kernel
theorem d_Mo_readSize_6 : decode prog_11_method_26_code 6 = .ok (.istore 5, 2) := by decide +kernel
theorem d_Mo_readSize_8 : decode prog_11_method_26_code 8 = .ok (.aload_n 0, 1) := by decide +kernel
theorem d_Mo_readSize_9 : decode prog_11_method_26_code 9 = .ok (.getfield 115, 3) := by decide +kernel
theorem d_Mo_readSize_12 : decode prog_11_method_26_code 12 = .ok (.iload 4, 2) := by decide +kernel
theorem d_Mo_readSize_14 : decode prog_11_method_26_code 14 = .ok (.if_icmp .ge 39, 3) := by decide +kernel
theorem d_Mo_readSize_17 : decode prog_11_method_26_code 17 = .ok (.aload_n 0, 1) := by decide +kernel
theorem d_Mo_readSize_18 : decode prog_11_method_26_code 18 = .ok (.getfield 54, 3) := by decide +kernel
theorem d_Mo_readSize_21 : decode prog_11_method_26_code 21 = .ok (.aload_n 0, 1) := by decide +kernel
theorem d_Mo_readSize_22 : decode prog_11_method_26_code 22 = .ok (.getfield 115, 3) := by decide +kernel
theorem d_Mo_readSize_25 : decode prog_11_method_26_code 25 = .ok (.iaload, 1) := by decide +kernel
theorem d_Mo_readSize_26 : decode prog_11_method_26_code 26 = .ok (.sipush 255, 3) := by decide +kernel
theorem d_Mo_readSize_29 : decode prog_11_method_26_code 29 = .ok (.if_icmp .ne 24, 3) := by decide +kernel
theorem d_Mo_readSize_32 : decode prog_11_method_26_code 32 = .ok (.iload 5, 2) := by decide +kernel
theorem d_Mo_readSize_34 : decode prog_11_method_26_code 34 = .ok (.sipush 255, 3) := by decide +kernel
theorem d_Mo_readSize_37 : decode prog_11_method_26_code 37 = .ok (.iadd, 1) := by decide +kernel
theorem d_Mo_readSize_38 : decode prog_11_method_26_code 38 = .ok (.istore 5, 2) := by decide +kernel
theorem d_Mo_readSize_40 : decode prog_11_method_26_code 40 = .ok (.aload_n 0, 1) := by decide +kernel
theorem d_Mo_readSize_41 : decode prog_11_method_26_code 41 = .ok (.dup, 1) := by decide +kernel
theorem d_Mo_readSize_42 : decode prog_11_method_26_code 42 = .ok (.getfield 115, 3) := by decide +kernel
theorem d_Mo_readSize_45 : decode prog_11_method_26_code 45 = .ok (.iconst 1, 1) := by decide +kernel
theorem d_Mo_readSize_46 : decode prog_11_method_26_code 46 = .ok (.iadd, 1) := by decide +kernel
theorem d_Mo_readSize_47 : decode prog_11_method_26_code 47 = .ok (.putfield 115, 3) := by decide +kernel
theorem d_Mo_readSize_50 : decode prog_11_method_26_code 50 = .ok (.goto (-42), 3) := by decide +kernel
theorem d_Mo_readSize_53 : decode prog_11_method_26_code 53 = .ok (.aload_n 0, 1) := by decide +kernel
theorem d_Mo_readSize_54 : decode prog_11_method_26_code 54 = .ok (.getfield 115, 3) := by decide +kernel
theorem d_Mo_readSize_57 : decode prog_11_method_26_code 57 = .ok (.iload 4, 2) := by decide +kernel
theorem d_Mo_readSize_59 : decode prog_11_method_26_code 59 = .ok (.if_icmp .lt 5, 3) := by decide +kernel
theorem d_Mo_readSize_62 : decode prog_11_method_26_code 62 = .ok (.iconst (-1), 1) := by decide +kernel
theorem d_Mo_readSize_63 : decode prog_11_method_26_code 63 = .ok (.ireturn, 1) := by decide +kernel
theorem d_Mo_readSize_64 : decode prog_11_method_26_code 64 = .ok (.iload 5, 2) := by decide +kernel
theorem d_Mo_readSize_66 : decode prog_11_method_26_code 66 = .ok (.aload_n 0, 1) := by decide +kernel
theorem d_Mo_readSize_67 : decode prog_11_method_26_code 67 = .ok (.getfield 54, 3) := by decide +kernel
theorem d_Mo_readSize_70 : decode prog_11_method_26_code 70 = .ok (.aload_n 0, 1) := by decide +kernel
theorem d_Mo_readSize_71 : decode prog_11_method_26_code 71 = .ok (.getfield 115, 3) := by decide +kernel
theorem d_Mo_readSize_74 : decode prog_11_method_26_code 74 = .ok (.iaload, 1) := by decide +kernel
theorem d_Mo_readSize_75 : decode prog_11_method_26_code 75 = .ok (.iadd, 1) := by decide +kernel
theorem d_Mo_readSize_76 : decode prog_11_method_26_code 76 = .ok (.istore 5, 2) := by decide +kernel
theorem d_Mo_readSize_78 : decode prog_11_method_26_code 78 = .ok (.aload_n 0, 1) := by decide +kernel
theorem d_Mo_readSize_79 : decode prog_11_method_26_code 79 = .ok (.dup, 1) := by decide +kernel
theorem d_Mo_readSize_80 : decode prog_11_method_26_code 80 = .ok (.getfield 115, 3) := by decide +kernel
theorem d_Mo_readSize_83 : decode prog_11_method_26_code 83 = .ok (.iconst 1, 1) := by decide +kernel
theorem d_Mo_readSize_84 : decode prog_11_method_26_code 84 = .ok (.iadd, 1) := by decide +kernel
theorem d_Mo_readSize_85 : decode prog_11_method_26_code 85 = .ok (.putfield 115, 3) := by decide +kernel
theorem d_Mo_readSize_88 : decode prog_11_method_26_code 88 = .ok (.iload 5, 2) := by decide +kernel
theorem d_Mo_readSize_90 : decode prog_11_method_26_code 90 = .ok (.ireturn, 1) := by decide +kernel
theorem d_Mo_readSize_91 : decode prog_11_method_26_code 91 = .ok (.aload_n 0, 1) := by decide +kernel
theorem d_Mo_readSize_92 : decode prog_11_method_26_code 92 = .ok (.iload 4, 2) := by decide +kernel
theorem d_Mo_readSize_94 : decode prog_11_method_26_code 94 = .ok (.invokevirtual 140, 3) := by decide +kernel
theorem d_Mo_readSize_97 : decode prog_11_method_26_code 97 = .ok (.istore 5, 2) := by decide +kernel
theorem d_Mo_readSize_99 : decode prog_11_method_26_code 99 = .ok (.iload 5, 2) := by decide +kernel
theorem d_Mo_readSize_101 : decode prog_11_method_26_code 101 = .ok (.ifCond .ne 10, 3) := by decide +kernel
theorem d_Mo_readSize_104 : decode prog_11_method_26_code 104 = .ok (.aload_n 0, 1) := by decide +kernel
theorem d_Mo_readSize_105 : decode prog_11_method_26_code 105 = .ok (.getfield 128, 3) := by decide +kernel
theorem d_Mo_readSize_108 : decode prog_11_method_26_code 108 = .ok (.ifCond .eq 5, 3) := by decide +kernel
theorem d_Mo_readSize_111 : decode prog_11_method_26_code 111 = .ok (.iconst (-1), 1) := by decide +kernel
theorem d_Mo_readSize_112 : decode prog_11_method_26_code 112 = .ok (.ireturn, 1) := by decide +kernel
theorem d_Mo_readSize_113 : decode prog_11_method_26_code 113 = .ok (.iload_n 2, 1) := by decide +kernel
theorem d_Mo_readSize_114 : decode prog_11_method_26_code 114 = .ok (.ifCond .ne 10, 3) := by decide +kernel
theorem d_Mo_readSize_117 : decode prog_11_method_26_code 117 = .ok (.aload_n 0, 1) := by decide +kernel
theorem d_Mo_readSize_118 : decode prog_11_method_26_code 118 = .ok (.getfield 124, 3) := by decide +kernel
theorem d_Mo_readSize_121 : decode prog_11_method_26_code 121 = .ok (.goto 24, 3) := by decide +kernel
theorem d_Mo_readSize_124 : decode prog_11_method_26_code 124 = .ok (.iload_n 3, 1) := by decide +kernel
theorem d_Mo_readSize_125 : decode prog_11_method_26_code 125 = .ok (.i2l, 1) := by decide +kernel
theorem d_Mo_readSize_126 : decode prog_11_method_26_code 126 = .ok (.aload_n 0, 1) := by decide +kernel
theorem d_Mo_readSize_127 : decode prog_11_method_26_code 127 = .ok (.getfield 124, 3) := by decide +kernel
theorem d_Mo_readSize_130 : decode prog_11_method_26_code 130 = .ok (.ladd, 1) := by decide +kernel
theorem d_Mo_readSize_131 : decode prog_11_method_26_code 131 = .ok (.lconst 1, 1) := by decide +kernel
theorem d_Mo_readSize_132 : decode prog_11_method_26_code 132 = .ok (.bipush 7, 2) := by decide +kernel
theorem d_Mo_readSize_134 : decode prog_11_method_26_code 134 = .ok (.aload_n 0, 1) := by decide +kernel
theorem d_Mo_readSize_135 : decode prog_11_method_26_code 135 = .ok (.getfield 121, 3) := by decide +kernel
theorem d_Mo_readSize_138 : decode prog_11_method_26_code 138 = .ok (.imul, 1) := by decide +kernel
theorem d_Mo_readSize_139 : decode prog_11_method_26_code 139 = .ok (.iconst 1, 1) := by decide +kernel
theorem d_Mo_readSize_140 : decode prog_11_method_26_code 140 = .ok (.isub, 1) := by decide +kernel
theorem d_Mo_readSize_141 : decode prog_11_method_26_code 141 = .ok (.lshl, 1) := by decide +kernel
theorem d_Mo_readSize_142 : decode prog_11_method_26_code 142 = .ok (.lconst 1, 1) := by decide +kernel
theorem d_Mo_readSize_143 : decode prog_11_method_26_code 143 = .ok (.lsub, 1) := by decide +kernel
theorem d_Mo_readSize_144 : decode prog_11_method_26_code 144 = .ok (.lsub, 1) := by decide +kernel
theorem d_Mo_readSize_145 : decode prog_11_method_26_code 145 = .ok (.lstore 6, 2) := by decide +kernel
theorem d_Mo_readSize_147 : decode prog_11_method_26_code 147 = .ok (.lload 6, 2) := by decide +kernel
theorem d_Mo_readSize_149 : decode prog_11_method_26_code 149 = .ok (.lconst 0, 1) := by decide +kernel
theorem d_Mo_readSize_150 : decode prog_11_method_26_code 150 = .ok (.lcmp, 1) := by decide +kernel
theorem d_Mo_readSize_151 : decode prog_11_method_26_code 151 = .ok (.ifCond .lt 12, 3) := by decide +kernel
theorem d_Mo_readSize_154 : decode prog_11_method_26_code 154 = .ok (.lload 6, 2) := by decide +kernel
theorem d_Mo_readSize_156 : decode prog_11_method_26_code 156 = .ok (.ldc2_w 143, 3) := by decide +kernel
theorem d_Mo_readSize_159 : decode prog_11_method_26_code 159 = .ok (.lcmp, 1) := by decide +kernel
theorem d_Mo_readSize_160 : decode prog_11_method_26_code 160 = .ok (.ifCond .le 7, 3) := by decide +kernel
theorem d_Mo_readSize_163 : decode prog_11_method_26_code 163 = .ok (.iconst (-1), 1) := by decide +kernel
theorem d_Mo_readSize_164 : decode prog_11_method_26_code 164 = .ok (.goto 6, 3) := by decide +kernel
theorem d_Mo_readSize_167 : decode prog_11_method_26_code 167 = .ok (.lload 6, 2) := by decide +kernel
theorem d_Mo_readSize_169 : decode prog_11_method_26_code 169 = .ok (.l2i, 1) := by decide +kernel
theorem d_Mo_readSize_170 : decode prog_11_method_26_code 170 = .ok (.ireturn, 1) := by decide +kernel
theorem d_Mo_readSizes_0 : decode prog_11_method_27_code 0 = .ok (.iconst 0, 1) := by decide +kernel
theorem d_Mo_readSizes_1 : decode prog_11_method_27_code 1 = .ok (.istore 4, 2) := by decide +kernel
theorem d_Mo_readSizes_3 : decode prog_11_method_27_code 3 = .ok (.iconst 0, 1) := by decide +kernel
theorem d_Mo_readSizes_4 : decode prog_11_method_27_code 4 = .ok (.istore 5, 2) := by decide +kernel
theorem d_Mo_readSizes_6 : decode prog_11_method_27_code 6 = .ok (.iconst 0, 1) := by decide +kernel
theorem d_Mo_readSizes_7 : decode prog_11_method_27_code 7 = .ok (.istore 6, 2) := by decide +kernel
theorem d_Mo_readSizes_9 : decode prog_11_method_27_code 9 = .ok (.iload 6, 2) := by decide +kernel
theorem d_Mo_readSizes_11 : decode prog_11_method_27_code 11 = .ok (.iconst 1, 1) := by decide +kernel
theorem d_Mo_readSizes_12 : decode prog_11_method_27_code 12 = .ok (.iadd, 1) := by decide +kernel
theorem d_Mo_readSizes_13 : decode prog_11_method_27_code 13 = .ok (.iload_n 2, 1) := by decide +kernel
theorem d_Mo_readSizes_14 : decode prog_11_method_27_code 14 = .ok (.if_icmp .ge 61, 3) := by decide +kernel
theorem d_Mo_readSizes_17 : decode prog_11_method_27_code 17 = .ok (.iload_n 1, 1) := by decide +kernel
theorem d_Mo_readSizes_18 : decode prog_11_method_27_code 18 = .ok (.iconst 2, 1) := by decide +kernel
theorem d_Mo_readSizes_19 : decode prog_11_method_27_code 19 = .ok (.if_icmp .eq 56, 3) := by decide +kernel
theorem d_Mo_readSizes_22 : decode prog_11_method_27_code 22 = .ok (.aload_n 0, 1) := by decide +kernel
theorem d_Mo_readSizes_23 : decode prog_11_method_27_code 23 = .ok (.iload_n 1, 1) := by decide +kernel
theorem d_Mo_readSizes_24 : decode prog_11_method_27_code 24 = .ok (.iload 6, 2) := by decide +kernel
theorem d_Mo_readSizes_26 : decode prog_11_method_27_code 26 = .ok (.iload 5, 2) := by decide +kernel
theorem d_Mo_readSizes_28 : decode prog_11_method_27_code 28 = .ok (.iload_n 3, 1) := by decide +kernel
theorem d_Mo_readSizes_29 : decode prog_11_method_27_code 29 = .ok (.invokevirtual 145, 3) := by decide +kernel
theorem d_Mo_readSizes_32 : decode prog_11_method_27_code 32 = .ok (.istore 7, 2) := by decide +kernel
theorem d_Mo_readSizes_34 : decode prog_11_method_27_code 34 = .ok (.iload 7, 2) := by decide +kernel
theorem d_Mo_readSizes_36 : decode prog_11_method_27_code 36 = .ok (.ifCond .ge 5, 3) := by decide +kernel
theorem d_Mo_readSizes_39 : decode prog_11_method_27_code 39 = .ok (.iconst 0, 1) := by decide +kernel
theorem d_Mo_readSizes_40 : decode prog_11_method_27_code 40 = .ok (.ireturn, 1) := by decide +kernel
theorem d_Mo_readSizes_41 : decode prog_11_method_27_code 41 = .ok (.aload_n 0, 1) := by decide +kernel
theorem d_Mo_readSizes_42 : decode prog_11_method_27_code 42 = .ok (.getfield 39, 3) := by decide +kernel
theorem d_Mo_readSizes_45 : decode prog_11_method_27_code 45 = .ok (.bipush 8, 2) := by decide +kernel
theorem d_Mo_readSizes_47 : decode prog_11_method_27_code 47 = .ok (.aload_n 0, 1) := by decide +kernel
theorem d_Mo_readSizes_48 : decode prog_11_method_27_code 48 = .ok (.getfield 86, 3) := by decide +kernel
theorem d_Mo_readSizes_51 : decode prog_11_method_27_code 51 = .ok (.imul, 1) := by decide +kernel
theorem d_Mo_readSizes_52 : decode prog_11_method_27_code 52 = .ok (.iload 6, 2) := by decide +kernel
theorem d_Mo_readSizes_54 : decode prog_11_method_27_code 54 = .ok (.iadd, 1) := by decide +kernel
theorem d_Mo_readSizes_55 : decode prog_11_method_27_code 55 = .ok (.iload 7, 2) := by decide +kernel
theorem d_Mo_readSizes_57 : decode prog_11_method_27_code 57 = .ok (.iastore, 1) := by decide +kernel
theorem d_Mo_readSizes_58 : decode prog_11_method_27_code 58 = .ok (.iload 7, 2) := by decide +kernel
theorem d_Mo_readSizes_60 : decode prog_11_method_27_code 60 = .ok (.istore 5, 2) := by decide +kernel
theorem d_Mo_readSizes_62 : decode prog_11_method_27_code 62 = .ok (.iload 4, 2) := by decide +kernel
theorem d_Mo_readSizes_64 : decode prog_11_method_27_code 64 = .ok (.iload 7, 2) := by decide +kernel
theorem d_Mo_readSizes_66 : decode prog_11_method_27_code 66 = .ok (.iadd, 1) := by decide +kernel
theorem d_Mo_readSizes_67 : decode prog_11_method_27_code 67 = .ok (.istore 4, 2) := by decide +kernel
theorem d_Mo_readSizes_69 : decode prog_11_method_27_code 69 = .ok (.iinc 6 1, 3) := by decide +kernel
theorem d_Mo_readSizes_72 : decode prog_11_method_27_code 72 = .ok (.goto (-63), 3) := by decide +kernel
theorem d_Mo_readSizes_75 : decode prog_11_method_27_code 75 = .ok (.iload_n 3, 1) := by decide +kernel
theorem d_Mo_readSizes_76 : decode prog_11_method_27_code 76 = .ok (.aload_n 0, 1) := by decide +kernel
theorem d_Mo_readSizes_77 : decode prog_11_method_27_code 77 = .ok (.getfield 115, 3) := by decide +kernel
theorem d_Mo_readSizes_80 : decode prog_11_method_27_code 80 = .ok (.isub, 1) := by decide +kernel
theorem d_Mo_readSizes_81 : decode prog_11_method_27_code 81 = .ok (.iload 4, 2) := by decide +kernel
theorem d_Mo_readSizes_83 : decode prog_11_method_27_code 83 = .ok (.isub, 1) := by decide +kernel
theorem d_Mo_readSizes_84 : decode prog_11_method_27_code 84 = .ok (.istore 6, 2) := by decide +kernel
theorem d_Mo_readSizes_86 : decode prog_11_method_27_code 86 = .ok (.iload_n 1, 1) := by decide +kernel
theorem d_Mo_readSizes_87 : decode prog_11_method_27_code 87 = .ok (.iconst 2, 1) := by decide +kernel
theorem d_Mo_readSizes_88 : decode prog_11_method_27_code 88 = .ok (.if_icmp .ne 50, 3) := by decide +kernel
theorem d_Mo_readSizes_91 : decode prog_11_method_27_code 91 = .ok (.iconst 0, 1) := by decide +kernel
theorem d_Mo_readSizes_92 : decode prog_11_method_27_code 92 = .ok (.istore 7, 2) := by decide +kernel
theorem d_Mo_readSizes_94 : decode prog_11_method_27_code 94 = .ok (.iload 7, 2) := by decide +kernel
theorem d_Mo_readSizes_96 : decode prog_11_method_27_code 96 = .ok (.iload_n 2, 1) := by decide +kernel
theorem d_Mo_readSizes_97 : decode prog_11_method_27_code 97 = .ok (.if_icmp .ge 28, 3) := by decide +kernel
theorem d_Mo_readSizes_100 : decode prog_11_method_27_code 100 = .ok (.aload_n 0, 1) := by decide +kernel
theorem d_Mo_readSizes_101 : decode prog_11_method_27_code 101 = .ok (.getfield 39, 3) := by decide +kernel
theorem d_Mo_readSizes_104 : decode prog_11_method_27_code 104 = .ok (.bipush 8, 2) := by decide +kernel
theorem d_Mo_readSizes_106 : decode prog_11_method_27_code 106 = .ok (.aload_n 0, 1) := by decide +kernel
theorem d_Mo_readSizes_107 : decode prog_11_method_27_code 107 = .ok (.getfield 86, 3) := by decide +kernel
theorem d_Mo_readSizes_110 : decode prog_11_method_27_code 110 = .ok (.imul, 1) := by decide +kernel
theorem d_Mo_readSizes_111 : decode prog_11_method_27_code 111 = .ok (.iload 7, 2) := by decide +kernel
theorem d_Mo_readSizes_113 : decode prog_11_method_27_code 113 = .ok (.iadd, 1) := by decide +kernel
theorem d_Mo_readSizes_114 : decode prog_11_method_27_code 114 = .ok (.iload 6, 2) := by decide +kernel
theorem d_Mo_readSizes_116 : decode prog_11_method_27_code 116 = .ok (.iload_n 2, 1) := by decide +kernel
theorem d_Mo_readSizes_117 : decode prog_11_method_27_code 117 = .ok (.idiv, 1) := by decide +kernel
theorem d_Mo_readSizes_118 : decode prog_11_method_27_code 118 = .ok (.iastore, 1) := by decide +kernel
theorem d_Mo_readSizes_119 : decode prog_11_method_27_code 119 = .ok (.iinc 7 1, 3) := by decide +kernel
theorem d_Mo_readSizes_122 : decode prog_11_method_27_code 122 = .ok (.goto (-28), 3) := by decide +kernel
theorem d_Mo_readSizes_125 : decode prog_11_method_27_code 125 = .ok (.iload 6, 2) := by decide +kernel
theorem d_Mo_readSizes_127 : decode prog_11_method_27_code 127 = .ok (.iload_n 2, 1) := by decide +kernel
theorem d_Mo_readSizes_128 : decode prog_11_method_27_code 128 = .ok (.irem, 1) := by decide +kernel
theorem d_Mo_readSizes_129 : decode prog_11_method_27_code 129 = .ok (.ifCond .ne 7, 3) := by decide +kernel
theorem d_Mo_readSizes_132 : decode prog_11_method_27_code 132 = .ok (.iconst 1, 1) := by decide +kernel
theorem d_Mo_readSizes_133 : decode prog_11_method_27_code 133 = .ok (.goto 4, 3) := by decide +kernel
theorem d_Mo_readSizes_136 : decode prog_11_method_27_code 136 = .ok (.iconst 0, 1) := by decide +kernel
theorem d_Mo_readSizes_137 : decode prog_11_method_27_code 137 = .ok (.ireturn, 1) := by decide +kernel
theorem d_Mo_readSizes_138 : decode prog_11_method_27_code 138 = .ok (.aload_n 0, 1) := by decide +kernel
theorem d_Mo_readSizes_139 : decode prog_11_method_27_code 139 = .ok (.getfield 39, 3) := by decide +kernel
theorem d_Mo_readSizes_142 : decode prog_11_method_27_code 142 = .ok (.bipush 8, 2) := by decide +kernel
theorem d_Mo_readSizes_144 : decode prog_11_method_27_code 144 = .ok (.aload_n 0, 1) := by decide +kernel
theorem d_Mo_readSizes_145 : decode prog_11_method_27_code 145 = .ok (.getfield 86, 3) := by decide +kernel
theorem d_Mo_readSizes_148 : decode prog_11_method_27_code 148 = .ok (.imul, 1) := by decide +kernel
theorem d_Mo_readSizes_149 : decode prog_11_method_27_code 149 = .ok (.iload_n 2, 1) := by decide +kernel
theorem d_Mo_readSizes_150 : decode prog_11_method_27_code 150 = .ok (.iadd, 1) := by decide +kernel
theorem d_Mo_readSizes_151 : decode prog_11_method_27_code 151 = .ok (.iconst 1, 1) := by decide +kernel
theorem d_Mo_readSizes_152 : decode prog_11_method_27_code 152 = .ok (.isub, 1) := by decide +kernel
theorem d_Mo_readSizes_153 : decode prog_11_method_27_code 153 = .ok (.iload 6, 2) := by decide +kernel
theorem d_Mo_readSizes_155 : decode prog_11_method_27_code 155 = .ok (.iastore, 1) := by decide +kernel
theorem d_Mo_readSizes_156 : decode prog_11_method_27_code 156 = .ok (.iload 6, 2) := by decide +kernel
theorem d_Mo_readSizes_158 : decode prog_11_method_27_code 158 = .ok (.ifCond .lt 7, 3) := by decide +kernel
theorem d_Mo_readSizes_161 : decode prog_11_method_27_code 161 = .ok (.iconst 1, 1) := by decide +kernel
theorem d_Mo_readSizes_162 : decode prog_11_method_27_code 162 = .ok (.goto 4, 3) := by decide +kernel
theorem d_Mo_readSizes_165 : decode prog_11_method_27_code 165 = .ok (.iconst 0, 1) := by decide +kernel
theorem d_Mo_readSizes_166 : decode prog_11_method_27_code 166 = .ok (.ireturn, 1) := by decide +kernel
theorem d_Mo_readBlock_0 : decode prog_11_method_28_code 0 = .ok (.aload_n 0, 1) := by decide +kernel
theorem d_Mo_readBlock_1 : decode prog_11_method_28_code 1 = .ok (.iload_n 1, 1) := by decide +kernel
theorem d_Mo_readBlock_2 : decode prog_11_method_28_code 2 = .ok (.invokevirtual 140, 3) := by decide +kernel
theorem d_Mo_readBlock_5 : decode prog_11_method_28_code 5 = .ok (.istore_n 2, 1) := by decide +kernel
theorem d_Mo_readBlock_6 : decode prog_11_method_28_code 6 = .ok (.iload_n 2, 1) := by decide +kernel
theorem d_Mo_readBlock_7 : decode prog_11_method_28_code 7 = .ok (.ifCond .ne 33, 3) := by decide +kernel
theorem d_Mo_readBlock_10 : decode prog_11_method_28_code 10 = .ok (.aload_n 0, 1) := by decide +kernel
theorem d_Mo_readBlock_11 : decode prog_11_method_28_code 11 = .ok (.getfield 124, 3) := by decide +kernel
theorem d_Mo_readBlock_14 : decode prog_11_method_28_code 14 = .ok (.lconst 1, 1) := by decide +kernel
theorem d_Mo_readBlock_15 : decode prog_11_method_28_code 15 = .ok (.lcmp, 1) := by decide +kernel
theorem d_Mo_readBlock_16 : decode prog_11_method_28_code 16 = .ok (.ifCond .lt 24, 3) := by decide +kernel
theorem d_Mo_readBlock_19 : decode prog_11_method_28_code 19 = .ok (.aload_n 0, 1) := by decide +kernel
theorem d_Mo_readBlock_20 : decode prog_11_method_28_code 20 = .ok (.getfield 124, 3) := by decide +kernel
theorem d_Mo_readBlock_23 : decode prog_11_method_28_code 23 = .ok (.ldc2_w 149, 3) := by decide +kernel
theorem d_Mo_readBlock_26 : decode prog_11_method_28_code 26 = .ok (.lcmp, 1) := by decide +kernel
theorem d_Mo_readBlock_27 : decode prog_11_method_28_code 27 = .ok (.ifCond .gt 13, 3) := by decide +kernel
theorem d_Mo_readBlock_30 : decode prog_11_method_28_code 30 = .ok (.iload_n 1, 1) := by decide +kernel
theorem d_Mo_readBlock_31 : decode prog_11_method_28_code 31 = .ok (.aload_n 0, 1) := by decide +kernel
theorem d_Mo_readBlock_32 : decode prog_11_method_28_code 32 = .ok (.getfield 115, 3) := by decide +kernel
theorem d_Mo_readBlock_35 : decode prog_11_method_28_code 35 = .ok (.isub, 1) := by decide +kernel
theorem d_Mo_readBlock_36 : decode prog_11_method_28_code 36 = .ok (.iconst 3, 1) := by decide +kernel
theorem d_Mo_readBlock_37 : decode prog_11_method_28_code 37 = .ok (.if_icmp .ge 5, 3) := by decide +kernel
theorem d_Mo_readBlock_40 : decode prog_11_method_28_code 40 = .ok (.iconst 0, 1) := by decide +kernel
theorem d_Mo_readBlock_41 : decode prog_11_method_28_code 41 = .ok (.ireturn, 1) := by decide +kernel
theorem d_Mo_readBlock_42 : decode prog_11_method_28_code 42 = .ok (.aload_n 0, 1) := by decide +kernel
theorem d_Mo_readBlock_43 : decode prog_11_method_28_code 43 = .ok (.getfield 26, 3) := by decide +kernel
theorem d_Mo_readBlock_46 : decode prog_11_method_28_code 46 = .ok (.aload_n 0, 1) := by decide +kernel
theorem d_Mo_readBlock_47 : decode prog_11_method_28_code 47 = .ok (.getfield 86, 3) := by decide +kernel
theorem d_Mo_readBlock_50 : decode prog_11_method_28_code 50 = .ok (.aload_n 0, 1) := by decide +kernel
theorem d_Mo_readBlock_51 : decode prog_11_method_28_code 51 = .ok (.getfield 124, 3) := by decide +kernel
theorem d_Mo_readBlock_54 : decode prog_11_method_28_code 54 = .ok (.l2i, 1) := by decide +kernel
theorem d_Mo_readBlock_55 : decode prog_11_method_28_code 55 = .ok (.iastore, 1) := by decide +kernel
theorem d_Mo_readBlock_56 : decode prog_11_method_28_code 56 = .ok (.aload_n 0, 1) := by decide +kernel
theorem d_Mo_readBlock_57 : decode prog_11_method_28_code 57 = .ok (.getfield 54, 3) := by decide +kernel
theorem d_Mo_readBlock_60 : decode prog_11_method_28_code 60 = .ok (.aload_n 0, 1) := by decide +kernel
theorem d_Mo_readBlock_61 : decode prog_11_method_28_code 61 = .ok (.getfield 115, 3) := by decide +kernel
theorem d_Mo_readBlock_64 : decode prog_11_method_28_code 64 = .ok (.iaload, 1) := by decide +kernel
theorem d_Mo_readBlock_65 : decode prog_11_method_28_code 65 = .ok (.istore_n 3, 1) := by decide +kernel
theorem d_Mo_readBlock_66 : decode prog_11_method_28_code 66 = .ok (.aload_n 0, 1) := by decide +kernel
theorem d_Mo_readBlock_67 : decode prog_11_method_28_code 67 = .ok (.getfield 29, 3) := by decide +kernel
theorem d_Mo_readBlock_70 : decode prog_11_method_28_code 70 = .ok (.aload_n 0, 1) := by decide +kernel
theorem d_Mo_readBlock_71 : decode prog_11_method_28_code 71 = .ok (.getfield 86, 3) := by decide +kernel
theorem d_Mo_readBlock_74 : decode prog_11_method_28_code 74 = .ok (.iload_n 3, 1) := by decide +kernel
theorem d_Mo_readBlock_75 : decode prog_11_method_28_code 75 = .ok (.bipush 127, 2) := by decide +kernel
theorem d_Mo_readBlock_77 : decode prog_11_method_28_code 77 = .ok (.if_icmp .le 11, 3) := by decide +kernel
theorem d_Mo_readBlock_80 : decode prog_11_method_28_code 80 = .ok (.iload_n 3, 1) := by decide +kernel
theorem d_Mo_readBlock_81 : decode prog_11_method_28_code 81 = .ok (.sipush 256, 3) := by decide +kernel
theorem d_Mo_readBlock_84 : decode prog_11_method_28_code 84 = .ok (.isub, 1) := by decide +kernel
theorem d_Mo_readBlock_85 : decode prog_11_method_28_code 85 = .ok (.goto 4, 3) := by decide +kernel
theorem d_Mo_readBlock_88 : decode prog_11_method_28_code 88 = .ok (.iload_n 3, 1) := by decide +kernel
theorem d_Mo_readBlock_89 : decode prog_11_method_28_code 89 = .ok (.sipush 256, 3) := by decide +kernel
theorem d_Mo_readBlock_92 : decode prog_11_method_28_code 92 = .ok (.imul, 1) := by decide +kernel
theorem d_Mo_readBlock_93 : decode prog_11_method_28_code 93 = .ok (.aload_n 0, 1) := by decide +kernel
theorem d_Mo_readBlock_94 : decode prog_11_method_28_code 94 = .ok (.getfield 54, 3) := by decide +kernel
theorem d_Mo_readBlock_97 : decode prog_11_method_28_code 97 = .ok (.aload_n 0, 1) := by decide +kernel
theorem d_Mo_readBlock_98 : decode prog_11_method_28_code 98 = .ok (.getfield 115, 3) := by decide +kernel
theorem d_Mo_readBlock_101 : decode prog_11_method_28_code 101 = .ok (.iconst 1, 1) := by decide +kernel
theorem d_Mo_readBlock_102 : decode prog_11_method_28_code 102 = .ok (.iadd, 1) := by decide +kernel
theorem d_Mo_readBlock_103 : decode prog_11_method_28_code 103 = .ok (.iaload, 1) := by decide +kernel
theorem d_Mo_readBlock_104 : decode prog_11_method_28_code 104 = .ok (.iadd, 1) := by decide +kernel
theorem d_Mo_readBlock_105 : decode prog_11_method_28_code 105 = .ok (.iastore, 1) := by decide +kernel
theorem d_Mo_readBlock_106 : decode prog_11_method_28_code 106 = .ok (.aload_n 0, 1) := by decide +kernel
theorem d_Mo_readBlock_107 : decode prog_11_method_28_code 107 = .ok (.getfield 54, 3) := by decide +kernel
theorem d_Mo_readBlock_110 : decode prog_11_method_28_code 110 = .ok (.aload_n 0, 1) := by decide +kernel
theorem d_Mo_readBlock_111 : decode prog_11_method_28_code 111 = .ok (.getfield 115, 3) := by decide +kernel
theorem d_Mo_readBlock_114 : decode prog_11_method_28_code 114 = .ok (.iconst 2, 1) := by decide +kernel
theorem d_Mo_readBlock_115 : decode prog_11_method_28_code 115 = .ok (.iadd, 1) := by decide +kernel
theorem d_Mo_readBlock_116 : decode prog_11_method_28_code 116 = .ok (.iaload, 1) := by decide +kernel
theorem d_Mo_readBlock_117 : decode prog_11_method_28_code 117 = .ok (.istore 4, 2) := by decide +kernel
theorem d_Mo_readBlock_119 : decode prog_11_method_28_code 119 = .ok (.aload_n 0, 1) := by decide +kernel
theorem d_Mo_readBlock_120 : decode prog_11_method_28_code 120 = .ok (.aload_n 0, 1) := by decide +kernel
theorem d_Mo_readBlock_121 : decode prog_11_method_28_code 121 = .ok (.getfield 115, 3) := by decide +kernel
theorem d_Mo_readBlock_124 : decode prog_11_method_28_code 124 = .ok (.iconst 3, 1) := by decide +kernel
theorem d_Mo_readBlock_125 : decode prog_11_method_28_code 125 = .ok (.iadd, 1) := by decide +kernel
theorem d_Mo_readBlock_126 : decode prog_11_method_28_code 126 = .ok (.putfield 115, 3) := by decide +kernel
theorem d_Mo_readBlock_129 : decode prog_11_method_28_code 129 = .ok (.aload_n 0, 1) := by decide +kernel
theorem d_Mo_readBlock_130 : decode prog_11_method_28_code 130 = .ok (.getfield 32, 3) := by decide +kernel
theorem d_Mo_readBlock_133 : decode prog_11_method_28_code 133 = .ok (.aload_n 0, 1) := by decide +kernel
theorem d_Mo_readBlock_134 : decode prog_11_method_28_code 134 = .ok (.getfield 86, 3) := by decide +kernel
theorem d_Mo_readBlock_137 : decode prog_11_method_28_code 137 = .ok (.iload 4, 2) := by decide +kernel
theorem d_Mo_readBlock_139 : decode prog_11_method_28_code 139 = .ok (.bipush 127, 2) := by decide +kernel
theorem d_Mo_readBlock_141 : decode prog_11_method_28_code 141 = .ok (.if_icmp .le 7, 3) := by decide +kernel
theorem d_Mo_readBlock_144 : decode prog_11_method_28_code 144 = .ok (.iconst 1, 1) := by decide +kernel
theorem d_Mo_readBlock_145 : decode prog_11_method_28_code 145 = .ok (.goto 4, 3) := by decide +kernel
theorem d_Mo_readBlock_148 : decode prog_11_method_28_code 148 = .ok (.iconst 0, 1) := by decide +kernel
theorem d_Mo_readBlock_149 : decode prog_11_method_28_code 149 = .ok (.bastore, 1) := by decide +kernel
theorem d_Mo_readBlock_150 : decode prog_11_method_28_code 150 = .ok (.iload 4, 2) := by decide +kernel
theorem d_Mo_readBlock_152 : decode prog_11_method_28_code 152 = .ok (.bipush 127, 2) := by decide +kernel
theorem d_Mo_readBlock_154 : decode prog_11_method_28_code 154 = .ok (.iand, 1) := by decide +kernel
theorem d_Mo_readBlock_155 : decode prog_11_method_28_code 155 = .ok (.iconst 2, 1) := by decide +kernel
theorem d_Mo_readBlock_156 : decode prog_11_method_28_code 156 = .ok (.idiv, 1) := by decide +kernel
theorem d_Mo_readBlock_157 : decode prog_11_method_28_code 157 = .ok (.istore 5, 2) := by decide +kernel
theorem d_Mo_readBlock_159 : decode prog_11_method_28_code 159 = .ok (.aload_n 0, 1) := by decide +kernel
theorem d_Mo_readBlock_160 : decode prog_11_method_28_code 160 = .ok (.getfield 36, 3) := by decide +kernel
theorem d_Mo_readBlock_163 : decode prog_11_method_28_code 163 = .ok (.aload_n 0, 1) := by decide +kernel
theorem d_Mo_readBlock_164 : decode prog_11_method_28_code 164 = .ok (.getfield 86, 3) := by decide +kernel
theorem d_Mo_readBlock_167 : decode prog_11_method_28_code 167 = .ok (.iload 5, 2) := by decide +kernel
theorem d_Mo_readBlock_169 : decode prog_11_method_28_code 169 = .ok (.iastore, 1) := by decide +kernel
theorem d_Mo_readBlock_170 : decode prog_11_method_28_code 170 = .ok (.iload 4, 2) := by decide +kernel
theorem d_Mo_readBlock_172 : decode prog_11_method_28_code 172 = .ok (.iconst 2, 1) := by decide +kernel
theorem d_Mo_readBlock_173 : decode prog_11_method_28_code 173 = .ok (.irem, 1) := by decide +kernel
theorem d_Mo_readBlock_174 : decode prog_11_method_28_code 174 = .ok (.iconst 1, 1) := by decide +kernel
theorem d_Mo_readBlock_175 : decode prog_11_method_28_code 175 = .ok (.if_icmp .eq 9, 3) := by decide +kernel
theorem d_Mo_readBlock_178 : decode prog_11_method_28_code 178 = .ok (.iload 5, 2) := by decide +kernel
theorem d_Mo_readBlock_180 : decode prog_11_method_28_code 180 = .ok (.iconst 3, 1) := by decide +kernel
theorem d_Mo_readBlock_181 : decode prog_11_method_28_code 181 = .ok (.if_icmp .le 5, 3) := by decide +kernel
theorem d_Mo_readBlock_184 : decode prog_11_method_28_code 184 = .ok (.iconst 0, 1) := by decide +kernel
theorem d_Mo_readBlock_185 : decode prog_11_method_28_code 185 = .ok (.ireturn, 1) := by decide +kernel
theorem d_Mo_readBlock_186 : decode prog_11_method_28_code 186 = .ok (.iconst 1, 1) := by decide +kernel
theorem d_Mo_readBlock_187 : decode prog_11_method_28_code 187 = .ok (.istore 6, 2) := by decide +kernel
theorem d_Mo_readBlock_189 : decode prog_11_method_28_code 189 = .ok (.iload 5, 2) := by decide +kernel
theorem d_Mo_readBlock_191 : decode prog_11_method_28_code 191 = .ok (.ifCond .le 50, 3) := by decide +kernel
theorem d_Mo_readBlock_194 : decode prog_11_method_28_code 194 = .ok (.aload_n 0, 1) := by decide +kernel
theorem d_Mo_readBlock_195 : decode prog_11_method_28_code 195 = .ok (.getfield 115, 3) := by decide +kernel
theorem d_Mo_readBlock_198 : decode prog_11_method_28_code 198 = .ok (.iload_n 1, 1) := by decide +kernel
theorem d_Mo_readBlock_199 : decode prog_11_method_28_code 199 = .ok (.if_icmp .ge 17, 3) := by decide +kernel
theorem d_Mo_readBlock_202 : decode prog_11_method_28_code 202 = .ok (.aload_n 0, 1) := by decide +kernel
theorem d_Mo_readBlock_203 : decode prog_11_method_28_code 203 = .ok (.getfield 54, 3) := by decide +kernel
theorem d_Mo_readBlock_206 : decode prog_11_method_28_code 206 = .ok (.aload_n 0, 1) := by decide +kernel
theorem d_Mo_readBlock_207 : decode prog_11_method_28_code 207 = .ok (.getfield 115, 3) := by decide +kernel
theorem d_Mo_readBlock_210 : decode prog_11_method_28_code 210 = .ok (.iaload, 1) := by decide +kernel
theorem d_Mo_readBlock_211 : decode prog_11_method_28_code 211 = .ok (.bipush 7, 2) := by decide +kernel
theorem d_Mo_readBlock_213 : decode prog_11_method_28_code 213 = .ok (.if_icmp .le 5, 3) := by decide +kernel
theorem d_Mo_readBlock_216 : decode prog_11_method_28_code 216 = .ok (.iconst 0, 1) := by decide +kernel
theorem d_Mo_readBlock_217 : decode prog_11_method_28_code 217 = .ok (.ireturn, 1) := by decide +kernel
theorem d_Mo_readBlock_218 : decode prog_11_method_28_code 218 = .ok (.aload_n 0, 1) := by decide +kernel
theorem d_Mo_readBlock_219 : decode prog_11_method_28_code 219 = .ok (.getfield 54, 3) := by decide +kernel
theorem d_Mo_readBlock_222 : decode prog_11_method_28_code 222 = .ok (.aload_n 0, 1) := by decide +kernel
theorem d_Mo_readBlock_223 : decode prog_11_method_28_code 223 = .ok (.getfield 115, 3) := by decide +kernel
theorem d_Mo_readBlock_226 : decode prog_11_method_28_code 226 = .ok (.iaload, 1) := by decide +kernel
theorem d_Mo_readBlock_227 : decode prog_11_method_28_code 227 = .ok (.iconst 1, 1) := by decide +kernel
theorem d_Mo_readBlock_228 : decode prog_11_method_28_code 228 = .ok (.iadd, 1) := by decide +kernel
theorem d_Mo_readBlock_229 : decode prog_11_method_28_code 229 = .ok (.istore 6, 2) := by decide +kernel
theorem d_Mo_readBlock_231 : decode prog_11_method_28_code 231 = .ok (.aload_n 0, 1) := by decide +kernel
theorem d_Mo_readBlock_232 : decode prog_11_method_28_code 232 = .ok (.dup, 1) := by decide +kernel
theorem d_Mo_readBlock_233 : decode prog_11_method_28_code 233 = .ok (.getfield 115, 3) := by decide +kernel
theorem d_Mo_readBlock_236 : decode prog_11_method_28_code 236 = .ok (.iconst 1, 1) := by decide +kernel
theorem d_Mo_readBlock_237 : decode prog_11_method_28_code 237 = .ok (.iadd, 1) := by decide +kernel
theorem d_Mo_readBlock_238 : decode prog_11_method_28_code 238 = .ok (.putfield 115, 3) := by decide +kernel
theorem d_Mo_readBlock_241 : decode prog_11_method_28_code 241 = .ok (.aload_n 0, 1) := by decide +kernel
theorem d_Mo_readBlock_242 : decode prog_11_method_28_code 242 = .ok (.iload 5, 2) := by decide +kernel
theorem d_Mo_readBlock_244 : decode prog_11_method_28_code 244 = .ok (.iload 6, 2) := by decide +kernel
theorem d_Mo_readBlock_246 : decode prog_11_method_28_code 246 = .ok (.iload_n 1, 1) := by decide +kernel
theorem d_Mo_readBlock_247 : decode prog_11_method_28_code 247 = .ok (.invokevirtual 151, 3) := by decide +kernel
theorem d_Mo_readBlock_250 : decode prog_11_method_28_code 250 = .ok (.ifCond .ne 5, 3) := by decide +kernel
theorem d_Mo_readBlock_253 : decode prog_11_method_28_code 253 = .ok (.iconst 0, 1) := by decide +kernel
theorem d_Mo_readBlock_254 : decode prog_11_method_28_code 254 = .ok (.ireturn, 1) := by decide +kernel
theorem d_Mo_readBlock_255 : decode prog_11_method_28_code 255 = .ok (.aload_n 0, 1) := by decide +kernel
theorem d_Mo_readBlock_256 : decode prog_11_method_28_code 256 = .ok (.getfield 20, 3) := by decide +kernel
theorem d_Mo_readBlock_259 : decode prog_11_method_28_code 259 = .ok (.aload_n 0, 1) := by decide +kernel
theorem d_Mo_readBlock_260 : decode prog_11_method_28_code 260 = .ok (.getfield 86, 3) := by decide +kernel
theorem d_Mo_readBlock_263 : decode prog_11_method_28_code 263 = .ok (.iload 6, 2) := by decide +kernel
theorem d_Mo_readBlock_265 : decode prog_11_method_28_code 265 = .ok (.iastore, 1) := by decide +kernel
theorem d_Mo_readBlock_266 : decode prog_11_method_28_code 266 = .ok (.iconst 0, 1) := by decide +kernel
theorem d_Mo_readBlock_267 : decode prog_11_method_28_code 267 = .ok (.istore 7, 2) := by decide +kernel
theorem d_Mo_readBlock_269 : decode prog_11_method_28_code 269 = .ok (.iload 7, 2) := by decide +kernel
theorem d_Mo_readBlock_271 : decode prog_11_method_28_code 271 = .ok (.iload 6, 2) := by decide +kernel
theorem d_Mo_readBlock_273 : decode prog_11_method_28_code 273 = .ok (.if_icmp .ge 51, 3) := by decide +kernel
theorem d_Mo_readBlock_276 : decode prog_11_method_28_code 276 = .ok (.aload_n 0, 1) := by decide +kernel
theorem d_Mo_readBlock_277 : decode prog_11_method_28_code 277 = .ok (.getfield 39, 3) := by decide +kernel
theorem d_Mo_readBlock_280 : decode prog_11_method_28_code 280 = .ok (.bipush 8, 2) := by decide +kernel
theorem d_Mo_readBlock_282 : decode prog_11_method_28_code 282 = .ok (.aload_n 0, 1) := by decide +kernel
theorem d_Mo_readBlock_283 : decode prog_11_method_28_code 283 = .ok (.getfield 86, 3) := by decide +kernel
theorem d_Mo_readBlock_286 : decode prog_11_method_28_code 286 = .ok (.imul, 1) := by decide +kernel
theorem d_Mo_readBlock_287 : decode prog_11_method_28_code 287 = .ok (.iload 7, 2) := by decide +kernel
theorem d_Mo_readBlock_289 : decode prog_11_method_28_code 289 = .ok (.iadd, 1) := by decide +kernel
theorem d_Mo_readBlock_290 : decode prog_11_method_28_code 290 = .ok (.iaload, 1) := by decide +kernel
theorem d_Mo_readBlock_291 : decode prog_11_method_28_code 291 = .ok (.istore 8, 2) := by decide +kernel
theorem d_Mo_readBlock_293 : decode prog_11_method_28_code 293 = .ok (.aload_n 0, 1) := by decide +kernel
theorem d_Mo_readBlock_294 : decode prog_11_method_28_code 294 = .ok (.getfield 42, 3) := by decide +kernel
theorem d_Mo_readBlock_297 : decode prog_11_method_28_code 297 = .ok (.bipush 8, 2) := by decide +kernel
theorem d_Mo_readBlock_299 : decode prog_11_method_28_code 299 = .ok (.aload_n 0, 1) := by decide +kernel
theorem d_Mo_readBlock_300 : decode prog_11_method_28_code 300 = .ok (.getfield 86, 3) := by decide +kernel
theorem d_Mo_readBlock_303 : decode prog_11_method_28_code 303 = .ok (.imul, 1) := by decide +kernel
theorem d_Mo_readBlock_304 : decode prog_11_method_28_code 304 = .ok (.iload 7, 2) := by decide +kernel
theorem d_Mo_readBlock_306 : decode prog_11_method_28_code 306 = .ok (.iadd, 1) := by decide +kernel
theorem d_Mo_readBlock_307 : decode prog_11_method_28_code 307 = .ok (.aload_n 0, 1) := by decide +kernel
theorem d_Mo_readBlock_308 : decode prog_11_method_28_code 308 = .ok (.getfield 104, 3) := by decide +kernel
theorem d_Mo_readBlock_311 : decode prog_11_method_28_code 311 = .ok (.iastore, 1) := by decide +kernel
theorem d_Mo_readBlock_312 : decode prog_11_method_28_code 312 = .ok (.aload_n 0, 1) := by decide +kernel
theorem d_Mo_readBlock_313 : decode prog_11_method_28_code 313 = .ok (.iload 8, 2) := by decide +kernel
theorem d_Mo_readBlock_315 : decode prog_11_method_28_code 315 = .ok (.invokevirtual 155, 3) := by decide +kernel
theorem d_Mo_readBlock_318 : decode prog_11_method_28_code 318 = .ok (.iinc 7 1, 3) := by decide +kernel
theorem d_Mo_readBlock_321 : decode prog_11_method_28_code 321 = .ok (.goto (-52), 3) := by decide +kernel
theorem d_Mo_readBlock_324 : decode prog_11_method_28_code 324 = .ok (.iconst 1, 1) := by decide +kernel
theorem d_Mo_readBlock_325 : decode prog_11_method_28_code 325 = .ok (.ireturn, 1) := by decide +kernel
theorem d_Mo_keep_0 : decode prog_11_method_29_code 0 = .ok (.iconst 0, 1) := by decide +kernel
theorem d_Mo_keep_1 : decode prog_11_method_29_code 1 = .ok (.istore_n 2, 1) := by decide +kernel
theorem d_Mo_keep_2 : decode prog_11_method_29_code 2 = .ok (.iload_n 2, 1) := by decide +kernel
theorem d_Mo_keep_3 : decode prog_11_method_29_code 3 = .ok (.iload_n 1, 1) := by decide +kernel
theorem d_Mo_keep_4 : decode prog_11_method_29_code 4 = .ok (.if_icmp .ge 47, 3) := by decide +kernel
theorem d_Mo_keep_7 : decode prog_11_method_29_code 7 = .ok (.aload_n 0, 1) := by decide +kernel
theorem d_Mo_keep_8 : decode prog_11_method_29_code 8 = .ok (.getfield 45, 3) := by decide +kernel
theorem d_Mo_keep_11 : decode prog_11_method_29_code 11 = .ok (.aload_n 0, 1) := by decide +kernel
theorem d_Mo_keep_12 : decode prog_11_method_29_code 12 = .ok (.getfield 104, 3) := by decide +kernel
theorem d_Mo_keep_15 : decode prog_11_method_29_code 15 = .ok (.aload_n 0, 1) := by decide +kernel
theorem d_Mo_keep_16 : decode prog_11_method_29_code 16 = .ok (.getfield 54, 3) := by decide +kernel
theorem d_Mo_keep_19 : decode prog_11_method_29_code 19 = .ok (.aload_n 0, 1) := by decide +kernel
theorem d_Mo_keep_20 : decode prog_11_method_29_code 20 = .ok (.getfield 115, 3) := by decide +kernel
theorem d_Mo_keep_23 : decode prog_11_method_29_code 23 = .ok (.iaload, 1) := by decide +kernel
theorem d_Mo_keep_24 : decode prog_11_method_29_code 24 = .ok (.iastore, 1) := by decide +kernel
theorem d_Mo_keep_25 : decode prog_11_method_29_code 25 = .ok (.aload_n 0, 1) := by decide +kernel
theorem d_Mo_keep_26 : decode prog_11_method_29_code 26 = .ok (.dup, 1) := by decide +kernel
theorem d_Mo_keep_27 : decode prog_11_method_29_code 27 = .ok (.getfield 104, 3) := by decide +kernel
theorem d_Mo_keep_30 : decode prog_11_method_29_code 30 = .ok (.iconst 1, 1) := by decide +kernel
theorem d_Mo_keep_31 : decode prog_11_method_29_code 31 = .ok (.iadd, 1) := by decide +kernel
theorem d_Mo_keep_32 : decode prog_11_method_29_code 32 = .ok (.putfield 104, 3) := by decide +kernel
theorem d_Mo_keep_35 : decode prog_11_method_29_code 35 = .ok (.aload_n 0, 1) := by decide +kernel
theorem d_Mo_keep_36 : decode prog_11_method_29_code 36 = .ok (.dup, 1) := by decide +kernel
theorem d_Mo_keep_37 : decode prog_11_method_29_code 37 = .ok (.getfield 115, 3) := by decide +kernel
theorem d_Mo_keep_40 : decode prog_11_method_29_code 40 = .ok (.iconst 1, 1) := by decide +kernel
theorem d_Mo_keep_41 : decode prog_11_method_29_code 41 = .ok (.iadd, 1) := by decide +kernel
theorem d_Mo_keep_42 : decode prog_11_method_29_code 42 = .ok (.putfield 115, 3) := by decide +kernel
theorem d_Mo_keep_45 : decode prog_11_method_29_code 45 = .ok (.iinc 2 1, 3) := by decide +kernel
theorem d_Mo_keep_48 : decode prog_11_method_29_code 48 = .ok (.goto (-46), 3) := by decide +kernel
theorem d_Mo_keep_51 : decode prog_11_method_29_code 51 = .ok (.return_, 1) := by decide +kernel
theorem d_Mo_readData_0 : decode prog_11_method_30_code 0 = .ok (.aload_n 0, 1) := by decide +kernel
theorem d_Mo_readData_1 : decode prog_11_method_30_code 1 = .ok (.getfield 20, 3) := by decide +kernel
theorem d_Mo_readData_4 : decode prog_11_method_30_code 4 = .ok (.aload_n 0, 1) := by decide +kernel
theorem d_Mo_readData_5 : decode prog_11_method_30_code 5 = .ok (.getfield 86, 3) := by decide +kernel
theorem d_Mo_readData_8 : decode prog_11_method_30_code 8 = .ok (.iload_n 2, 1) := by decide +kernel
theorem d_Mo_readData_9 : decode prog_11_method_30_code 9 = .ok (.aload_n 0, 1) := by decide +kernel
theorem d_Mo_readData_10 : decode prog_11_method_30_code 10 = .ok (.getfield 115, 3) := by decide +kernel
theorem d_Mo_readData_13 : decode prog_11_method_30_code 13 = .ok (.isub, 1) := by decide +kernel
theorem d_Mo_readData_14 : decode prog_11_method_30_code 14 = .ok (.iastore, 1) := by decide +kernel
theorem d_Mo_readData_15 : decode prog_11_method_30_code 15 = .ok (.iload_n 1, 1) := by decide +kernel
theorem d_Mo_readData_16 : decode prog_11_method_30_code 16 = .ok (.tableswitch 71 1 5 #[36, 42, 48, 54, 69], 36) := by decide +kernel
theorem d_Mo_readData_52 : decode prog_11_method_30_code 52 = .ok (.aload_n 0, 1) := by decide +kernel
theorem d_Mo_readData_53 : decode prog_11_method_30_code 53 = .ok (.iload_n 2, 1) := by decide +kernel
theorem d_Mo_readData_54 : decode prog_11_method_30_code 54 = .ok (.invokevirtual 159, 3) := by decide +kernel
theorem d_Mo_readData_57 : decode prog_11_method_30_code 57 = .ok (.ireturn, 1) := by decide +kernel
theorem d_Mo_readData_58 : decode prog_11_method_30_code 58 = .ok (.aload_n 0, 1) := by decide +kernel
theorem d_Mo_readData_59 : decode prog_11_method_30_code 59 = .ok (.iload_n 2, 1) := by decide +kernel
theorem d_Mo_readData_60 : decode prog_11_method_30_code 60 = .ok (.invokevirtual 162, 3) := by decide +kernel
theorem d_Mo_readData_63 : decode prog_11_method_30_code 63 = .ok (.ireturn, 1) := by decide +kernel
theorem d_Mo_readData_64 : decode prog_11_method_30_code 64 = .ok (.aload_n 0, 1) := by decide +kernel
theorem d_Mo_readData_65 : decode prog_11_method_30_code 65 = .ok (.iload_n 2, 1) := by decide +kernel
theorem d_Mo_readData_66 : decode prog_11_method_30_code 66 = .ok (.invokevirtual 165, 3) := by decide +kernel
theorem d_Mo_readData_69 : decode prog_11_method_30_code 69 = .ok (.ireturn, 1) := by decide +kernel
theorem d_Mo_readData_70 : decode prog_11_method_30_code 70 = .ok (.aload_n 0, 1) := by decide +kernel
theorem d_Mo_readData_71 : decode prog_11_method_30_code 71 = .ok (.iload_n 2, 1) := by decide +kernel
theorem d_Mo_readData_72 : decode prog_11_method_30_code 72 = .ok (.aload_n 0, 1) := by decide +kernel
theorem d_Mo_readData_73 : decode prog_11_method_30_code 73 = .ok (.getfield 67, 3) := by decide +kernel
theorem d_Mo_readData_76 : decode prog_11_method_30_code 76 = .ok (.aload_n 0, 1) := by decide +kernel
theorem d_Mo_readData_77 : decode prog_11_method_30_code 77 = .ok (.getfield 132, 3) := by decide +kernel
theorem d_Mo_readData_80 : decode prog_11_method_30_code 80 = .ok (.iaload, 1) := by decide +kernel
theorem d_Mo_readData_81 : decode prog_11_method_30_code 81 = .ok (.invokevirtual 168, 3) := by decide +kernel
theorem d_Mo_readData_84 : decode prog_11_method_30_code 84 = .ok (.ireturn, 1) := by decide +kernel
theorem d_Mo_readData_85 : decode prog_11_method_30_code 85 = .ok (.iconst 1, 1) := by decide +kernel
theorem d_Mo_readData_86 : decode prog_11_method_30_code 86 = .ok (.ireturn, 1) := by decide +kernel
theorem d_Mo_readData_87 : decode prog_11_method_30_code 87 = .ok (.aload_n 0, 1) := by decide +kernel
theorem d_Mo_readData_88 : decode prog_11_method_30_code 88 = .ok (.getfield 42, 3) := by decide +kernel
theorem d_Mo_readData_91 : decode prog_11_method_30_code 91 = .ok (.bipush 8, 2) := by decide +kernel
theorem d_Mo_readData_93 : decode prog_11_method_30_code 93 = .ok (.aload_n 0, 1) := by decide +kernel
theorem d_Mo_readData_94 : decode prog_11_method_30_code 94 = .ok (.getfield 86, 3) := by decide +kernel
theorem d_Mo_readData_97 : decode prog_11_method_30_code 97 = .ok (.imul, 1) := by decide +kernel
theorem d_Mo_readData_98 : decode prog_11_method_30_code 98 = .ok (.aload_n 0, 1) := by decide +kernel
theorem d_Mo_readData_99 : decode prog_11_method_30_code 99 = .ok (.getfield 104, 3) := by decide +kernel
theorem d_Mo_readData_102 : decode prog_11_method_30_code 102 = .ok (.iastore, 1) := by decide +kernel
theorem d_Mo_readData_103 : decode prog_11_method_30_code 103 = .ok (.aload_n 0, 1) := by decide +kernel
theorem d_Mo_readData_104 : decode prog_11_method_30_code 104 = .ok (.iload_n 2, 1) := by decide +kernel
theorem d_Mo_readData_105 : decode prog_11_method_30_code 105 = .ok (.aload_n 0, 1) := by decide +kernel
theorem d_Mo_readData_106 : decode prog_11_method_30_code 106 = .ok (.getfield 115, 3) := by decide +kernel
theorem d_Mo_readData_109 : decode prog_11_method_30_code 109 = .ok (.isub, 1) := by decide +kernel
theorem d_Mo_readData_110 : decode prog_11_method_30_code 110 = .ok (.invokevirtual 155, 3) := by decide +kernel
theorem d_Mo_readData_113 : decode prog_11_method_30_code 113 = .ok (.iconst 1, 1) := by decide +kernel
theorem d_Mo_readData_114 : decode prog_11_method_30_code 114 = .ok (.ireturn, 1) := by decide +kernel
theorem d_Mo_readSizeOf_0 : decode prog_11_method_31_code 0 = .ok (.aload_n 0, 1) := by decide +kernel
theorem d_Mo_readSizeOf_1 : decode prog_11_method_31_code 1 = .ok (.aload_n 0, 1) := by decide +kernel
theorem d_Mo_readSizeOf_2 : decode prog_11_method_31_code 2 = .ok (.getfield 67, 3) := by decide +kernel
theorem d_Mo_readSizeOf_5 : decode prog_11_method_31_code 5 = .ok (.aload_n 0, 1) := by decide +kernel
theorem d_Mo_readSizeOf_6 : decode prog_11_method_31_code 6 = .ok (.getfield 132, 3) := by decide +kernel
theorem d_Mo_readSizeOf_9 : decode prog_11_method_31_code 9 = .ok (.iaload, 1) := by decide +kernel
theorem d_Mo_readSizeOf_10 : decode prog_11_method_31_code 10 = .ok (.invokevirtual 140, 3) := by decide +kernel
theorem d_Mo_readSizeOf_13 : decode prog_11_method_31_code 13 = .ok (.istore_n 2, 1) := by decide +kernel
theorem d_Mo_readSizeOf_14 : decode prog_11_method_31_code 14 = .ok (.iload_n 2, 1) := by decide +kernel
theorem d_Mo_readSizeOf_15 : decode prog_11_method_31_code 15 = .ok (.ifCond .eq 5, 3) := by decide +kernel
theorem d_Mo_readSizeOf_18 : decode prog_11_method_31_code 18 = .ok (.iload_n 2, 1) := by decide +kernel
theorem d_Mo_readSizeOf_19 : decode prog_11_method_31_code 19 = .ok (.ireturn, 1) := by decide +kernel
theorem d_Mo_readSizeOf_20 : decode prog_11_method_31_code 20 = .ok (.iload_n 1, 1) := by decide +kernel
theorem d_Mo_readSizeOf_21 : decode prog_11_method_31_code 21 = .ok (.ldc 80, 2) := by decide +kernel
theorem d_Mo_readSizeOf_23 : decode prog_11_method_31_code 23 = .ok (.if_icmp .eq 9, 3) := by decide +kernel
theorem d_Mo_readSizeOf_26 : decode prog_11_method_31_code 26 = .ok (.iload_n 1, 1) := by decide +kernel
theorem d_Mo_readSizeOf_27 : decode prog_11_method_31_code 27 = .ok (.ldc 81, 2) := by decide +kernel
theorem d_Mo_readSizeOf_29 : decode prog_11_method_31_code 29 = .ok (.if_icmp .ne 7, 3) := by decide +kernel
theorem d_Mo_readSizeOf_32 : decode prog_11_method_31_code 32 = .ok (.iconst 1, 1) := by decide +kernel
theorem d_Mo_readSizeOf_33 : decode prog_11_method_31_code 33 = .ok (.goto 4, 3) := by decide +kernel
theorem d_Mo_readSizeOf_36 : decode prog_11_method_31_code 36 = .ok (.iconst 0, 1) := by decide +kernel
theorem d_Mo_readSizeOf_37 : decode prog_11_method_31_code 37 = .ok (.istore_n 3, 1) := by decide +kernel
theorem d_Mo_readSizeOf_38 : decode prog_11_method_31_code 38 = .ok (.aload_n 0, 1) := by decide +kernel
theorem d_Mo_readSizeOf_39 : decode prog_11_method_31_code 39 = .ok (.getfield 128, 3) := by decide +kernel
theorem d_Mo_readSizeOf_42 : decode prog_11_method_31_code 42 = .ok (.ifCond .eq 33, 3) := by decide +kernel
theorem d_Mo_readSizeOf_45 : decode prog_11_method_31_code 45 = .ok (.aload_n 0, 1) := by decide +kernel
theorem d_Mo_readSizeOf_46 : decode prog_11_method_31_code 46 = .ok (.aload_n 0, 1) := by decide +kernel
theorem d_Mo_readSizeOf_47 : decode prog_11_method_31_code 47 = .ok (.getfield 67, 3) := by decide +kernel
theorem d_Mo_readSizeOf_50 : decode prog_11_method_31_code 50 = .ok (.aload_n 0, 1) := by decide +kernel
theorem d_Mo_readSizeOf_51 : decode prog_11_method_31_code 51 = .ok (.getfield 132, 3) := by decide +kernel
theorem d_Mo_readSizeOf_54 : decode prog_11_method_31_code 54 = .ok (.iaload, 1) := by decide +kernel
theorem d_Mo_readSizeOf_55 : decode prog_11_method_31_code 55 = .ok (.aload_n 0, 1) := by decide +kernel
theorem d_Mo_readSizeOf_56 : decode prog_11_method_31_code 56 = .ok (.getfield 115, 3) := by decide +kernel
theorem d_Mo_readSizeOf_59 : decode prog_11_method_31_code 59 = .ok (.isub, 1) := by decide +kernel

theorem d_Mo_index_220 : decode prog_11_method_63_code 220 = .ok (.aload_n 0, 1) := by decide +kernel
theorem d_Mo_index_221 : decode prog_11_method_63_code 221 = .ok (.iload 7, 2) := by decide +kernel
theorem d_Mo_index_223 : decode prog_11_method_63_code 223 = .ok (.sipush 179, 3) := by decide +kernel
theorem d_Mo_index_226 : decode prog_11_method_63_code 226 = .ok (.aload_n 0, 1) := by decide +kernel
theorem d_Mo_index_227 : decode prog_11_method_63_code 227 = .ok (.iload 6, 2) := by decide +kernel
theorem d_Mo_index_229 : decode prog_11_method_63_code 229 = .ok (.invokevirtual 276, 3) := by decide +kernel
theorem d_Mo_index_232 : decode prog_11_method_63_code 232 = .ok (.invokevirtual 195, 3) := by decide +kernel
theorem d_Mo_index_235 : decode prog_11_method_63_code 235 = .ok (.istore 8, 2) := by decide +kernel
theorem d_Mo_index_237 : decode prog_11_method_63_code 237 = .ok (.aload_n 0, 1) := by decide +kernel
theorem d_Mo_index_238 : decode prog_11_method_63_code 238 = .ok (.iload 7, 2) := by decide +kernel
theorem d_Mo_index_240 : decode prog_11_method_63_code 240 = .ok (.sipush 247, 3) := by decide +kernel
theorem d_Mo_index_243 : decode prog_11_method_63_code 243 = .ok (.aload_n 0, 1) := by decide +kernel
theorem d_Mo_index_244 : decode prog_11_method_63_code 244 = .ok (.getfield 26, 3) := by decide +kernel
theorem d_Mo_index_247 : decode prog_11_method_63_code 247 = .ok (.iload 6, 2) := by decide +kernel
theorem d_Mo_index_249 : decode prog_11_method_63_code 249 = .ok (.iaload, 1) := by decide +kernel
theorem d_Mo_index_250 : decode prog_11_method_63_code 250 = .ok (.i2l, 1) := by decide +kernel
theorem d_Mo_index_251 : decode prog_11_method_63_code 251 = .ok (.invokevirtual 195, 3) := by decide +kernel
theorem d_Mo_index_254 : decode prog_11_method_63_code 254 = .ok (.istore 8, 2) := by decide +kernel
theorem d_Mo_index_256 : decode prog_11_method_63_code 256 = .ok (.aload_n 0, 1) := by decide +kernel
theorem d_Mo_index_257 : decode prog_11_method_63_code 257 = .ok (.iload 7, 2) := by decide +kernel
theorem d_Mo_index_259 : decode prog_11_method_63_code 259 = .ok (.sipush 241, 3) := by decide +kernel
theorem d_Mo_index_262 : decode prog_11_method_63_code 262 = .ok (.iload 4, 2) := by decide +kernel
theorem d_Mo_index_264 : decode prog_11_method_63_code 264 = .ok (.i2l, 1) := by decide +kernel
theorem d_Mo_index_265 : decode prog_11_method_63_code 265 = .ok (.invokevirtual 195, 3) := by decide +kernel
theorem d_Mo_index_268 : decode prog_11_method_63_code 268 = .ok (.istore 8, 2) := by decide +kernel
theorem d_Mo_index_270 : decode prog_11_method_63_code 270 = .ok (.iinc 4 1, 3) := by decide +kernel
theorem d_Mo_index_273 : decode prog_11_method_63_code 273 = .ok (.iinc 6 1, 3) := by decide +kernel
theorem d_Mo_index_276 : decode prog_11_method_63_code 276 = .ok (.goto (-94), 3) := by decide +kernel
theorem d_Mo_index_279 : decode prog_11_method_63_code 279 = .ok (.iload_n 3, 1) := by decide +kernel
theorem d_Mo_index_280 : decode prog_11_method_63_code 280 = .ok (.ireturn, 1) := by decide +kernel
theorem d_Mo_seek_0 : decode prog_11_method_64_code 0 = .ok (.iconst (-1), 1) := by decide +kernel
theorem d_Mo_seek_1 : decode prog_11_method_64_code 1 = .ok (.istore 5, 2) := by decide +kernel
theorem d_Mo_seek_3 : decode prog_11_method_64_code 3 = .ok (.iconst 0, 1) := by decide +kernel
theorem d_Mo_seek_4 : decode prog_11_method_64_code 4 = .ok (.istore 6, 2) := by decide +kernel
theorem d_Mo_seek_6 : decode prog_11_method_64_code 6 = .ok (.iload 6, 2) := by decide +kernel
theorem d_Mo_seek_8 : decode prog_11_method_64_code 8 = .ok (.aload_n 0, 1) := by decide +kernel
theorem d_Mo_seek_9 : decode prog_11_method_64_code 9 = .ok (.getfield 86, 3) := by decide +kernel
theorem d_Mo_seek_12 : decode prog_11_method_64_code 12 = .ok (.if_icmp .ge 70, 3) := by decide +kernel
theorem d_Mo_seek_15 : decode prog_11_method_64_code 15 = .ok (.aload_n 0, 1) := by decide +kernel
theorem d_Mo_seek_16 : decode prog_11_method_64_code 16 = .ok (.iload_n 1, 1) := by decide +kernel
theorem d_Mo_seek_17 : decode prog_11_method_64_code 17 = .ok (.ldc 80, 2) := by decide +kernel
theorem d_Mo_seek_19 : decode prog_11_method_64_code 19 = .ok (.invokevirtual 208, 3) := by decide +kernel
theorem d_Mo_seek_22 : decode prog_11_method_64_code 22 = .ok (.ifCond .eq 60, 3) := by decide +kernel
theorem d_Mo_seek_25 : decode prog_11_method_64_code 25 = .ok (.aload_n 0, 1) := by decide +kernel
theorem d_Mo_seek_26 : decode prog_11_method_64_code 26 = .ok (.iload 6, 2) := by decide +kernel
theorem d_Mo_seek_28 : decode prog_11_method_64_code 28 = .ok (.iload_n 1, 1) := by decide +kernel
theorem d_Mo_seek_29 : decode prog_11_method_64_code 29 = .ok (.invokevirtual 270, 3) := by decide +kernel
theorem d_Mo_seek_32 : decode prog_11_method_64_code 32 = .ok (.ifCond .eq 40, 3) := by decide +kernel
theorem d_Mo_seek_35 : decode prog_11_method_64_code 35 = .ok (.aload_n 0, 1) := by decide +kernel
theorem d_Mo_seek_36 : decode prog_11_method_64_code 36 = .ok (.getfield 32, 3) := by decide +kernel
theorem d_Mo_seek_39 : decode prog_11_method_64_code 39 = .ok (.iload 6, 2) := by decide +kernel
theorem d_Mo_seek_41 : decode prog_11_method_64_code 41 = .ok (.baload, 1) := by decide +kernel
theorem d_Mo_seek_42 : decode prog_11_method_64_code 42 = .ok (.ifCond .eq 30, 3) := by decide +kernel
theorem d_Mo_seek_45 : decode prog_11_method_64_code 45 = .ok (.aload_n 0, 1) := by decide +kernel
theorem d_Mo_seek_46 : decode prog_11_method_64_code 46 = .ok (.getfield 26, 3) := by decide +kernel
theorem d_Mo_seek_49 : decode prog_11_method_64_code 49 = .ok (.iload 6, 2) := by decide +kernel
theorem d_Mo_seek_51 : decode prog_11_method_64_code 51 = .ok (.iaload, 1) := by decide +kernel
theorem d_Mo_seek_52 : decode prog_11_method_64_code 52 = .ok (.iload_n 2, 1) := by decide +kernel
theorem d_Mo_seek_53 : decode prog_11_method_64_code 53 = .ok (.if_icmp .ne 19, 3) := by decide +kernel
theorem d_Mo_seek_56 : decode prog_11_method_64_code 56 = .ok (.aload_n 0, 1) := by decide +kernel
theorem d_Mo_seek_57 : decode prog_11_method_64_code 57 = .ok (.iload 6, 2) := by decide +kernel
theorem d_Mo_seek_59 : decode prog_11_method_64_code 59 = .ok (.invokevirtual 276, 3) := by decide +kernel
theorem d_Mo_seek_62 : decode prog_11_method_64_code 62 = .ok (.lload_n 3, 1) := by decide +kernel
theorem d_Mo_seek_63 : decode prog_11_method_64_code 63 = .ok (.lcmp, 1) := by decide +kernel
theorem d_Mo_seek_64 : decode prog_11_method_64_code 64 = .ok (.ifCond .gt 8, 3) := by decide +kernel
theorem d_Mo_seek_67 : decode prog_11_method_64_code 67 = .ok (.iload 6, 2) := by decide +kernel
theorem d_Mo_seek_69 : decode prog_11_method_64_code 69 = .ok (.goto 5, 3) := by decide +kernel
theorem d_Mo_seek_72 : decode prog_11_method_64_code 72 = .ok (.iload 5, 2) := by decide +kernel
theorem d_Mo_seek_74 : decode prog_11_method_64_code 74 = .ok (.istore 5, 2) := by decide +kernel
theorem d_Mo_seek_76 : decode prog_11_method_64_code 76 = .ok (.iinc 6 1, 3) := by decide +kernel
theorem d_Mo_seek_79 : decode prog_11_method_64_code 79 = .ok (.goto (-73), 3) := by decide +kernel
theorem d_Mo_seek_82 : decode prog_11_method_64_code 82 = .ok (.iload 5, 2) := by decide +kernel
theorem d_Mo_seek_84 : decode prog_11_method_64_code 84 = .ok (.ireturn, 1) := by decide +kernel
theorem d_Mo_jump_0 : decode prog_11_method_65_code 0 = .ok (.iconst (-1), 1) := by decide +kernel
theorem d_Mo_jump_1 : decode prog_11_method_65_code 1 = .ok (.istore 5, 2) := by decide +kernel
theorem d_Mo_jump_3 : decode prog_11_method_65_code 3 = .ok (.iconst 0, 1) := by decide +kernel
theorem d_Mo_jump_4 : decode prog_11_method_65_code 4 = .ok (.istore 6, 2) := by decide +kernel
theorem d_Mo_jump_6 : decode prog_11_method_65_code 6 = .ok (.iload 6, 2) := by decide +kernel
theorem d_Mo_jump_8 : decode prog_11_method_65_code 8 = .ok (.aload_n 0, 1) := by decide +kernel
theorem d_Mo_jump_9 : decode prog_11_method_65_code 9 = .ok (.getfield 86, 3) := by decide +kernel
theorem d_Mo_jump_12 : decode prog_11_method_65_code 12 = .ok (.if_icmp .ge 93, 3) := by decide +kernel
theorem d_Mo_jump_15 : decode prog_11_method_65_code 15 = .ok (.aload_n 0, 1) := by decide +kernel
theorem d_Mo_jump_16 : decode prog_11_method_65_code 16 = .ok (.iload_n 1, 1) := by decide +kernel
theorem d_Mo_jump_17 : decode prog_11_method_65_code 17 = .ok (.ldc 80, 2) := by decide +kernel
theorem d_Mo_jump_19 : decode prog_11_method_65_code 19 = .ok (.invokevirtual 208, 3) := by decide +kernel
theorem d_Mo_jump_22 : decode prog_11_method_65_code 22 = .ok (.ifCond .eq 83, 3) := by decide +kernel
theorem d_Mo_jump_25 : decode prog_11_method_65_code 25 = .ok (.aload_n 0, 1) := by decide +kernel
theorem d_Mo_jump_26 : decode prog_11_method_65_code 26 = .ok (.getfield 7, 3) := by decide +kernel
theorem d_Mo_jump_29 : decode prog_11_method_65_code 29 = .ok (.iload 6, 2) := by decide +kernel
theorem d_Mo_jump_31 : decode prog_11_method_65_code 31 = .ok (.iaload, 1) := by decide +kernel
theorem d_Mo_jump_32 : decode prog_11_method_65_code 32 = .ok (.sipush 187, 3) := by decide +kernel
theorem d_Mo_jump_35 : decode prog_11_method_65_code 35 = .ok (.if_icmp .ne 18, 3) := by decide +kernel
theorem d_Mo_jump_38 : decode prog_11_method_65_code 38 = .ok (.aload_n 0, 1) := by decide +kernel
theorem d_Mo_jump_39 : decode prog_11_method_65_code 39 = .ok (.getfield 13, 3) := by decide +kernel
theorem d_Mo_jump_42 : decode prog_11_method_65_code 42 = .ok (.iload 6, 2) := by decide +kernel
theorem d_Mo_jump_44 : decode prog_11_method_65_code 44 = .ok (.iaload, 1) := by decide +kernel
theorem d_Mo_jump_45 : decode prog_11_method_65_code 45 = .ok (.iload_n 1, 1) := by decide +kernel
theorem d_Mo_jump_46 : decode prog_11_method_65_code 46 = .ok (.if_icmp .ne 7, 3) := by decide +kernel
theorem d_Mo_jump_49 : decode prog_11_method_65_code 49 = .ok (.iconst 1, 1) := by decide +kernel
theorem d_Mo_jump_50 : decode prog_11_method_65_code 50 = .ok (.goto 4, 3) := by decide +kernel
theorem d_Mo_jump_53 : decode prog_11_method_65_code 53 = .ok (.iconst 0, 1) := by decide +kernel
theorem d_Mo_jump_54 : decode prog_11_method_65_code 54 = .ok (.istore 7, 2) := by decide +kernel
theorem d_Mo_jump_56 : decode prog_11_method_65_code 56 = .ok (.iload 7, 2) := by decide +kernel
theorem d_Mo_jump_58 : decode prog_11_method_65_code 58 = .ok (.ifCond .eq 37, 3) := by decide +kernel
theorem d_Mo_jump_61 : decode prog_11_method_65_code 61 = .ok (.aload_n 0, 1) := by decide +kernel
theorem d_Mo_jump_62 : decode prog_11_method_65_code 62 = .ok (.iload 6, 2) := by decide +kernel
theorem d_Mo_jump_64 : decode prog_11_method_65_code 64 = .ok (.sipush 247, 3) := by decide +kernel
theorem d_Mo_jump_67 : decode prog_11_method_65_code 67 = .ok (.invokevirtual 266, 3) := by decide +kernel
theorem d_Mo_jump_70 : decode prog_11_method_65_code 70 = .ok (.iload_n 2, 1) := by decide +kernel
theorem d_Mo_jump_71 : decode prog_11_method_65_code 71 = .ok (.i2l, 1) := by decide +kernel
theorem d_Mo_jump_72 : decode prog_11_method_65_code 72 = .ok (.lcmp, 1) := by decide +kernel
theorem d_Mo_jump_73 : decode prog_11_method_65_code 73 = .ok (.ifCond .ne 22, 3) := by decide +kernel
theorem d_Mo_jump_76 : decode prog_11_method_65_code 76 = .ok (.aload_n 0, 1) := by decide +kernel
theorem d_Mo_jump_77 : decode prog_11_method_65_code 77 = .ok (.iload 6, 2) := by decide +kernel
theorem d_Mo_jump_79 : decode prog_11_method_65_code 79 = .ok (.sipush 179, 3) := by decide +kernel
theorem d_Mo_jump_82 : decode prog_11_method_65_code 82 = .ok (.invokevirtual 266, 3) := by decide +kernel
theorem d_Mo_jump_85 : decode prog_11_method_65_code 85 = .ok (.lload_n 3, 1) := by decide +kernel
theorem d_Mo_jump_86 : decode prog_11_method_65_code 86 = .ok (.lcmp, 1) := by decide +kernel
theorem d_Mo_jump_87 : decode prog_11_method_65_code 87 = .ok (.ifCond .gt 8, 3) := by decide +kernel
theorem d_Mo_jump_90 : decode prog_11_method_65_code 90 = .ok (.iload 6, 2) := by decide +kernel
theorem d_Mo_jump_92 : decode prog_11_method_65_code 92 = .ok (.goto 5, 3) := by decide +kernel
theorem d_Mo_jump_95 : decode prog_11_method_65_code 95 = .ok (.iload 5, 2) := by decide +kernel
theorem d_Mo_jump_97 : decode prog_11_method_65_code 97 = .ok (.istore 5, 2) := by decide +kernel
theorem d_Mo_jump_99 : decode prog_11_method_65_code 99 = .ok (.iinc 6 1, 3) := by decide +kernel
theorem d_Mo_jump_102 : decode prog_11_method_65_code 102 = .ok (.goto (-96), 3) := by decide +kernel
theorem d_Mo_jump_105 : decode prog_11_method_65_code 105 = .ok (.iload 5, 2) := by decide +kernel
theorem d_Mo_jump_107 : decode prog_11_method_65_code 107 = .ok (.ifCond .ge 5, 3) := by decide +kernel
theorem d_Mo_jump_110 : decode prog_11_method_65_code 110 = .ok (.iconst (-1), 1) := by decide +kernel
theorem d_Mo_jump_111 : decode prog_11_method_65_code 111 = .ok (.ireturn, 1) := by decide +kernel
theorem d_Mo_jump_112 : decode prog_11_method_65_code 112 = .ok (.aload_n 0, 1) := by decide +kernel
theorem d_Mo_jump_113 : decode prog_11_method_65_code 113 = .ok (.iload 5, 2) := by decide +kernel
theorem d_Mo_jump_115 : decode prog_11_method_65_code 115 = .ok (.sipush 241, 3) := by decide +kernel
theorem d_Mo_jump_118 : decode prog_11_method_65_code 118 = .ok (.invokevirtual 266, 3) := by decide +kernel
theorem d_Mo_jump_121 : decode prog_11_method_65_code 121 = .ok (.lstore 6, 2) := by decide +kernel
theorem d_Mo_jump_123 : decode prog_11_method_65_code 123 = .ok (.iconst 0, 1) := by decide +kernel
theorem d_Mo_jump_124 : decode prog_11_method_65_code 124 = .ok (.istore 8, 2) := by decide +kernel
theorem d_Mo_jump_126 : decode prog_11_method_65_code 126 = .ok (.iload 8, 2) := by decide +kernel
theorem d_Mo_jump_128 : decode prog_11_method_65_code 128 = .ok (.aload_n 0, 1) := by decide +kernel
theorem d_Mo_jump_129 : decode prog_11_method_65_code 129 = .ok (.getfield 86, 3) := by decide +kernel
theorem d_Mo_jump_132 : decode prog_11_method_65_code 132 = .ok (.if_icmp .ge 35, 3) := by decide +kernel
theorem d_Mo_jump_135 : decode prog_11_method_65_code 135 = .ok (.aload_n 0, 1) := by decide +kernel
theorem d_Mo_jump_136 : decode prog_11_method_65_code 136 = .ok (.iload 8, 2) := by decide +kernel
theorem d_Mo_jump_138 : decode prog_11_method_65_code 138 = .ok (.iload_n 1, 1) := by decide +kernel
theorem d_Mo_jump_139 : decode prog_11_method_65_code 139 = .ok (.invokevirtual 270, 3) := by decide +kernel
theorem d_Mo_jump_142 : decode prog_11_method_65_code 142 = .ok (.ifCond .eq 19, 3) := by decide +kernel
theorem d_Mo_jump_145 : decode prog_11_method_65_code 145 = .ok (.lload 6, 2) := by decide +kernel
theorem d_Mo_jump_147 : decode prog_11_method_65_code 147 = .ok (.lconst 0, 1) := by decide +kernel
theorem d_Mo_jump_148 : decode prog_11_method_65_code 148 = .ok (.lcmp, 1) := by decide +kernel
theorem d_Mo_jump_149 : decode prog_11_method_65_code 149 = .ok (.ifCond .ne 6, 3) := by decide +kernel
theorem d_Mo_jump_152 : decode prog_11_method_65_code 152 = .ok (.iload 8, 2) := by decide +kernel
theorem d_Mo_jump_154 : decode prog_11_method_65_code 154 = .ok (.ireturn, 1) := by decide +kernel
theorem d_Mo_jump_155 : decode prog_11_method_65_code 155 = .ok (.lload 6, 2) := by decide +kernel
theorem d_Mo_jump_157 : decode prog_11_method_65_code 157 = .ok (.lconst 1, 1) := by decide +kernel
theorem d_Mo_jump_158 : decode prog_11_method_65_code 158 = .ok (.lsub, 1) := by decide +kernel
theorem d_Mo_jump_159 : decode prog_11_method_65_code 159 = .ok (.lstore 6, 2) := by decide +kernel
theorem d_Mo_jump_161 : decode prog_11_method_65_code 161 = .ok (.iinc 8 1, 3) := by decide +kernel
theorem d_Mo_jump_164 : decode prog_11_method_65_code 164 = .ok (.goto (-38), 3) := by decide +kernel
theorem d_Mo_jump_167 : decode prog_11_method_65_code 167 = .ok (.iconst (-1), 1) := by decide +kernel
theorem d_Mo_jump_168 : decode prog_11_method_65_code 168 = .ok (.ireturn, 1) := by decide +kernel
theorem d_So_of_0 : decode prog_7_method_4_code 0 = .ok (.iconst 0, 1) := by decide +kernel
theorem d_So_of_1 : decode prog_7_method_4_code 1 = .ok (.istore_n 1, 1) := by decide +kernel
theorem d_So_of_2 : decode prog_7_method_4_code 2 = .ok (.iload_n 1, 1) := by decide +kernel
theorem d_So_of_3 : decode prog_7_method_4_code 3 = .ok (.getstatic 89, 3) := by decide +kernel
theorem d_So_of_6 : decode prog_7_method_4_code 6 = .ok (.arraylength, 1) := by decide +kernel
theorem d_So_of_7 : decode prog_7_method_4_code 7 = .ok (.if_icmp .ge 27, 3) := by decide +kernel
theorem d_So_of_10 : decode prog_7_method_4_code 10 = .ok (.getstatic 89, 3) := by decide +kernel
theorem d_So_of_13 : decode prog_7_method_4_code 13 = .ok (.iload_n 1, 1) := by decide +kernel
theorem d_So_of_14 : decode prog_7_method_4_code 14 = .ok (.aaload, 1) := by decide +kernel
theorem d_So_of_15 : decode prog_7_method_4_code 15 = .ok (.getfield 76, 3) := by decide +kernel
theorem d_So_of_18 : decode prog_7_method_4_code 18 = .ok (.iload_n 0, 1) := by decide +kernel
theorem d_So_of_19 : decode prog_7_method_4_code 19 = .ok (.if_icmp .ne 9, 3) := by decide +kernel
theorem d_So_of_22 : decode prog_7_method_4_code 22 = .ok (.getstatic 89, 3) := by decide +kernel
theorem d_So_of_25 : decode prog_7_method_4_code 25 = .ok (.iload_n 1, 1) := by decide +kernel
theorem d_So_of_26 : decode prog_7_method_4_code 26 = .ok (.aaload, 1) := by decide +kernel
theorem d_So_of_27 : decode prog_7_method_4_code 27 = .ok (.areturn, 1) := by decide +kernel
theorem d_So_of_28 : decode prog_7_method_4_code 28 = .ok (.iinc 1 1, 3) := by decide +kernel
theorem d_So_of_31 : decode prog_7_method_4_code 31 = .ok (.goto (-29), 3) := by decide +kernel
theorem d_So_of_34 : decode prog_7_method_4_code 34 = .ok (.getstatic 54, 3) := by decide +kernel
theorem d_So_of_37 : decode prog_7_method_4_code 37 = .ok (.areturn, 1) := by decide +kernel
theorem d_So_fits_0 : decode prog_7_method_5_code 0 = .ok (.aload_n 0, 1) := by decide +kernel
theorem d_So_fits_1 : decode prog_7_method_5_code 1 = .ok (.getfield 83, 3) := by decide +kernel
theorem d_So_fits_4 : decode prog_7_method_5_code 4 = .ok (.iload_n 1, 1) := by decide +kernel
theorem d_So_fits_5 : decode prog_7_method_5_code 5 = .ok (.iand, 1) := by decide +kernel
theorem d_So_fits_6 : decode prog_7_method_5_code 6 = .ok (.ifCond .eq 7, 3) := by decide +kernel
theorem d_So_fits_9 : decode prog_7_method_5_code 9 = .ok (.iconst 1, 1) := by decide +kernel
theorem d_So_fits_10 : decode prog_7_method_5_code 10 = .ok (.goto 4, 3) := by decide +kernel
theorem d_So_fits_13 : decode prog_7_method_5_code 13 = .ok (.iconst 0, 1) := by decide +kernel
theorem d_So_fits_14 : decode prog_7_method_5_code 14 = .ok (.ireturn, 1) := by decide +kernel
theorem d_La_law_0 : decode code 0 = .ok (.new 7, 3) := by decide +kernel
theorem d_La_law_3 : decode code 3 = .ok (.dup, 1) := by decide +kernel
theorem d_La_law_4 : decode code 4 = .ok (.invokespecial 9, 3) := by decide +kernel
theorem d_La_law_7 : decode code 7 = .ok (.astore_n 1, 1) := by decide +kernel
theorem d_La_law_8 : decode code 8 = .ok (.new 10, 3) := by decide +kernel
theorem d_La_law_11 : decode code 11 = .ok (.dup, 1) := by decide +kernel
theorem d_La_law_12 : decode code 12 = .ok (.invokespecial 12, 3) := by decide +kernel
theorem d_La_law_15 : decode code 15 = .ok (.astore_n 2, 1) := by decide +kernel
theorem d_La_law_16 : decode code 16 = .ok (.iconst 0, 1) := by decide +kernel
theorem d_La_law_17 : decode code 17 = .ok (.istore_n 3, 1) := by decide +kernel
theorem d_La_law_18 : decode code 18 = .ok (.iload_n 3, 1) := by decide +kernel
theorem d_La_law_19 : decode code 19 = .ok (.aload_n 0, 1) := by decide +kernel
theorem d_La_law_20 : decode code 20 = .ok (.arraylength, 1) := by decide +kernel
theorem d_La_law_21 : decode code 21 = .ok (.bipush 6, 2) := by decide +kernel
theorem d_La_law_23 : decode code 23 = .ok (.isub, 1) := by decide +kernel
theorem d_La_law_24 : decode code 24 = .ok (.if_icmp .gt 879, 3) := by decide +kernel
theorem d_La_law_27 : decode code 27 = .ok (.aload_n 0, 1) := by decide +kernel
theorem d_La_law_28 : decode code 28 = .ok (.iload_n 3, 1) := by decide +kernel
theorem d_La_law_29 : decode code 29 = .ok (.iaload, 1) := by decide +kernel
theorem d_La_law_30 : decode code 30 = .ok (.bipush 31, 2) := by decide +kernel
theorem d_La_law_32 : decode code 32 = .ok (.iand, 1) := by decide +kernel
theorem d_La_law_33 : decode code 33 = .ok (.tableswitch 864 0 19 #[95, 158, 197, 220, 233, 246, 257, 330, 365, 398, 477, 500, 523, 547, 580, 623, 656, 695, 718, 791], 95) := by decide +kernel
theorem d_La_law_128 : decode code 128 = .ok (.aload_n 1, 1) := by decide +kernel
theorem d_La_law_129 : decode code 129 = .ok (.aload_n 0, 1) := by decide +kernel
theorem d_La_law_130 : decode code 130 = .ok (.iload_n 3, 1) := by decide +kernel
theorem d_La_law_131 : decode code 131 = .ok (.iconst 1, 1) := by decide +kernel
theorem d_La_law_132 : decode code 132 = .ok (.iadd, 1) := by decide +kernel
theorem d_La_law_133 : decode code 133 = .ok (.iaload, 1) := by decide +kernel
theorem d_La_law_134 : decode code 134 = .ok (.i2l, 1) := by decide +kernel
theorem d_La_law_135 : decode code 135 = .ok (.bipush 32, 2) := by decide +kernel
theorem d_La_law_137 : decode code 137 = .ok (.lshl, 1) := by decide +kernel
theorem d_La_law_138 : decode code 138 = .ok (.aload_n 0, 1) := by decide +kernel
theorem d_La_law_139 : decode code 139 = .ok (.iload_n 3, 1) := by decide +kernel
theorem d_La_law_140 : decode code 140 = .ok (.iconst 2, 1) := by decide +kernel
theorem d_La_law_141 : decode code 141 = .ok (.iadd, 1) := by decide +kernel
theorem d_La_law_142 : decode code 142 = .ok (.iaload, 1) := by decide +kernel
theorem d_La_law_143 : decode code 143 = .ok (.i2l, 1) := by decide +kernel
theorem d_La_law_144 : decode code 144 = .ok (.ldc2_w 13, 3) := by decide +kernel
theorem d_La_law_147 : decode code 147 = .ok (.land, 1) := by decide +kernel
theorem d_La_law_148 : decode code 148 = .ok (.lor, 1) := by decide +kernel
theorem d_La_law_149 : decode code 149 = .ok (.aload_n 0, 1) := by decide +kernel
theorem d_La_law_150 : decode code 150 = .ok (.iload_n 3, 1) := by decide +kernel
theorem d_La_law_151 : decode code 151 = .ok (.iconst 3, 1) := by decide +kernel
theorem d_La_law_152 : decode code 152 = .ok (.iadd, 1) := by decide +kernel
theorem d_La_law_153 : decode code 153 = .ok (.iaload, 1) := by decide +kernel
theorem d_La_law_154 : decode code 154 = .ok (.invokevirtual 15, 3) := by decide +kernel
theorem d_La_law_157 : decode code 157 = .ok (.aload_n 2, 1) := by decide +kernel
theorem d_La_law_158 : decode code 158 = .ok (.aload_n 0, 1) := by decide +kernel
theorem d_La_law_159 : decode code 159 = .ok (.iload_n 3, 1) := by decide +kernel
theorem d_La_law_160 : decode code 160 = .ok (.iconst 1, 1) := by decide +kernel
theorem d_La_law_161 : decode code 161 = .ok (.iadd, 1) := by decide +kernel
theorem d_La_law_162 : decode code 162 = .ok (.iaload, 1) := by decide +kernel
theorem d_La_law_163 : decode code 163 = .ok (.i2l, 1) := by decide +kernel
theorem d_La_law_164 : decode code 164 = .ok (.bipush 32, 2) := by decide +kernel
theorem d_La_law_166 : decode code 166 = .ok (.lshl, 1) := by decide +kernel
theorem d_La_law_167 : decode code 167 = .ok (.aload_n 0, 1) := by decide +kernel
theorem d_La_law_168 : decode code 168 = .ok (.iload_n 3, 1) := by decide +kernel
theorem d_La_law_169 : decode code 169 = .ok (.iconst 2, 1) := by decide +kernel
theorem d_La_law_170 : decode code 170 = .ok (.iadd, 1) := by decide +kernel
theorem d_La_law_171 : decode code 171 = .ok (.iaload, 1) := by decide +kernel
theorem d_La_law_172 : decode code 172 = .ok (.i2l, 1) := by decide +kernel
theorem d_La_law_173 : decode code 173 = .ok (.ldc2_w 13, 3) := by decide +kernel
theorem d_La_law_176 : decode code 176 = .ok (.land, 1) := by decide +kernel
theorem d_La_law_177 : decode code 177 = .ok (.lor, 1) := by decide +kernel
theorem d_La_law_178 : decode code 178 = .ok (.aload_n 0, 1) := by decide +kernel
theorem d_La_law_179 : decode code 179 = .ok (.iload_n 3, 1) := by decide +kernel
theorem d_La_law_180 : decode code 180 = .ok (.iconst 3, 1) := by decide +kernel
theorem d_La_law_181 : decode code 181 = .ok (.iadd, 1) := by decide +kernel
theorem d_La_law_182 : decode code 182 = .ok (.iaload, 1) := by decide +kernel
theorem d_La_law_183 : decode code 183 = .ok (.invokevirtual 19, 3) := by decide +kernel
theorem d_La_law_186 : decode code 186 = .ok (.if_icmp .eq 711, 3) := by decide +kernel
theorem d_La_law_189 : decode code 189 = .ok (.iconst 0, 1) := by decide +kernel
theorem d_La_law_190 : decode code 190 = .ok (.ireturn, 1) := by decide +kernel
theorem d_La_law_191 : decode code 191 = .ok (.aload_n 1, 1) := by decide +kernel
theorem d_La_law_192 : decode code 192 = .ok (.aload_n 0, 1) := by decide +kernel
theorem d_La_law_193 : decode code 193 = .ok (.iload_n 3, 1) := by decide +kernel
theorem d_La_law_194 : decode code 194 = .ok (.iconst 1, 1) := by decide +kernel
theorem d_La_law_195 : decode code 195 = .ok (.iadd, 1) := by decide +kernel
theorem d_La_law_196 : decode code 196 = .ok (.iaload, 1) := by decide +kernel
theorem d_La_law_197 : decode code 197 = .ok (.ifCond .eq 7, 3) := by decide +kernel
theorem d_La_law_200 : decode code 200 = .ok (.iconst 1, 1) := by decide +kernel
theorem d_La_law_201 : decode code 201 = .ok (.goto 4, 3) := by decide +kernel
theorem d_La_law_204 : decode code 204 = .ok (.iconst 0, 1) := by decide +kernel
theorem d_La_law_205 : decode code 205 = .ok (.invokevirtual 20, 3) := by decide +kernel
theorem d_La_law_208 : decode code 208 = .ok (.aload_n 2, 1) := by decide +kernel
theorem d_La_law_209 : decode code 209 = .ok (.aload_n 0, 1) := by decide +kernel
theorem d_La_law_210 : decode code 210 = .ok (.iload_n 3, 1) := by decide +kernel
theorem d_La_law_211 : decode code 211 = .ok (.iconst 1, 1) := by decide +kernel
theorem d_La_law_212 : decode code 212 = .ok (.iadd, 1) := by decide +kernel
theorem d_La_law_213 : decode code 213 = .ok (.iaload, 1) := by decide +kernel
theorem d_La_law_214 : decode code 214 = .ok (.ifCond .eq 7, 3) := by decide +kernel
theorem d_La_law_217 : decode code 217 = .ok (.iconst 1, 1) := by decide +kernel
theorem d_La_law_218 : decode code 218 = .ok (.goto 4, 3) := by decide +kernel
theorem d_La_law_221 : decode code 221 = .ok (.iconst 0, 1) := by decide +kernel
theorem d_La_law_222 : decode code 222 = .ok (.invokevirtual 24, 3) := by decide +kernel
theorem d_La_law_225 : decode code 225 = .ok (.if_icmp .eq 672, 3) := by decide +kernel
theorem d_La_law_228 : decode code 228 = .ok (.iconst 0, 1) := by decide +kernel
theorem d_La_law_229 : decode code 229 = .ok (.ireturn, 1) := by decide +kernel
theorem d_La_law_230 : decode code 230 = .ok (.aload_n 1, 1) := by decide +kernel
theorem d_La_law_231 : decode code 231 = .ok (.aload_n 0, 1) := by decide +kernel
theorem d_La_law_232 : decode code 232 = .ok (.iload_n 3, 1) := by decide +kernel
theorem d_La_law_233 : decode code 233 = .ok (.iconst 1, 1) := by decide +kernel
theorem d_La_law_234 : decode code 234 = .ok (.iadd, 1) := by decide +kernel
theorem d_La_law_235 : decode code 235 = .ok (.iaload, 1) := by decide +kernel
theorem d_La_law_236 : decode code 236 = .ok (.invokevirtual 25, 3) := by decide +kernel
theorem d_La_law_239 : decode code 239 = .ok (.aload_n 2, 1) := by decide +kernel
theorem d_La_law_240 : decode code 240 = .ok (.aload_n 0, 1) := by decide +kernel
theorem d_La_law_241 : decode code 241 = .ok (.iload_n 3, 1) := by decide +kernel
theorem d_La_law_242 : decode code 242 = .ok (.iconst 1, 1) := by decide +kernel
theorem d_La_law_243 : decode code 243 = .ok (.iadd, 1) := by decide +kernel
theorem d_La_law_244 : decode code 244 = .ok (.iaload, 1) := by decide +kernel
theorem d_La_law_245 : decode code 245 = .ok (.invokevirtual 29, 3) := by decide +kernel
theorem d_La_law_248 : decode code 248 = .ok (.if_icmp .eq 649, 3) := by decide +kernel
theorem d_La_law_251 : decode code 251 = .ok (.iconst 0, 1) := by decide +kernel
theorem d_La_law_252 : decode code 252 = .ok (.ireturn, 1) := by decide +kernel
theorem d_La_law_253 : decode code 253 = .ok (.aload_n 1, 1) := by decide +kernel
theorem d_La_law_254 : decode code 254 = .ok (.invokevirtual 30, 3) := by decide +kernel
theorem d_La_law_257 : decode code 257 = .ok (.aload_n 2, 1) := by decide +kernel
theorem d_La_law_258 : decode code 258 = .ok (.invokevirtual 34, 3) := by decide +kernel
theorem d_La_law_261 : decode code 261 = .ok (.if_icmp .eq 636, 3) := by decide +kernel
theorem d_La_law_264 : decode code 264 = .ok (.iconst 0, 1) := by decide +kernel
theorem d_La_law_265 : decode code 265 = .ok (.ireturn, 1) := by decide +kernel
theorem d_La_law_266 : decode code 266 = .ok (.aload_n 1, 1) := by decide +kernel
theorem d_La_law_267 : decode code 267 = .ok (.invokevirtual 35, 3) := by decide +kernel
theorem d_La_law_270 : decode code 270 = .ok (.aload_n 2, 1) := by decide +kernel
theorem d_La_law_271 : decode code 271 = .ok (.invokevirtual 38, 3) := by decide +kernel
theorem d_La_law_274 : decode code 274 = .ok (.if_icmp .eq 623, 3) := by decide +kernel
theorem d_La_law_277 : decode code 277 = .ok (.iconst 0, 1) := by decide +kernel
theorem d_La_law_278 : decode code 278 = .ok (.ireturn, 1) := by decide +kernel
theorem d_La_law_279 : decode code 279 = .ok (.aload_n 1, 1) := by decide +kernel
theorem d_La_law_280 : decode code 280 = .ok (.invokevirtual 39, 3) := by decide +kernel
theorem d_La_law_283 : decode code 283 = .ok (.aload_n 2, 1) := by decide +kernel
theorem d_La_law_284 : decode code 284 = .ok (.invokevirtual 42, 3) := by decide +kernel
theorem d_La_law_287 : decode code 287 = .ok (.goto 610, 3) := by decide +kernel
theorem d_La_law_290 : decode code 290 = .ok (.aload_n 1, 1) := by decide +kernel
theorem d_La_law_291 : decode code 291 = .ok (.aload_n 0, 1) := by decide +kernel
theorem d_La_law_292 : decode code 292 = .ok (.iload_n 3, 1) := by decide +kernel
theorem d_La_law_293 : decode code 293 = .ok (.iconst 1, 1) := by decide +kernel
theorem d_La_law_294 : decode code 294 = .ok (.iadd, 1) := by decide +kernel
theorem d_La_law_295 : decode code 295 = .ok (.iaload, 1) := by decide +kernel
theorem d_La_law_296 : decode code 296 = .ok (.aload_n 0, 1) := by decide +kernel
theorem d_La_law_297 : decode code 297 = .ok (.iload_n 3, 1) := by decide +kernel
theorem d_La_law_298 : decode code 298 = .ok (.iconst 2, 1) := by decide +kernel
theorem d_La_law_299 : decode code 299 = .ok (.iadd, 1) := by decide +kernel
theorem d_La_law_300 : decode code 300 = .ok (.iaload, 1) := by decide +kernel
theorem d_La_law_301 : decode code 301 = .ok (.aload_n 0, 1) := by decide +kernel
theorem d_La_law_302 : decode code 302 = .ok (.iload_n 3, 1) := by decide +kernel
theorem d_La_law_303 : decode code 303 = .ok (.iconst 3, 1) := by decide +kernel
theorem d_La_law_304 : decode code 304 = .ok (.iadd, 1) := by decide +kernel
theorem d_La_law_305 : decode code 305 = .ok (.iaload, 1) := by decide +kernel
theorem d_La_law_306 : decode code 306 = .ok (.i2l, 1) := by decide +kernel
theorem d_La_law_307 : decode code 307 = .ok (.bipush 32, 2) := by decide +kernel
theorem d_La_law_309 : decode code 309 = .ok (.lshl, 1) := by decide +kernel
theorem d_La_law_310 : decode code 310 = .ok (.aload_n 0, 1) := by decide +kernel
theorem d_La_law_311 : decode code 311 = .ok (.iload_n 3, 1) := by decide +kernel
theorem d_La_law_312 : decode code 312 = .ok (.iconst 4, 1) := by decide +kernel
theorem d_La_law_313 : decode code 313 = .ok (.iadd, 1) := by decide +kernel
theorem d_La_law_314 : decode code 314 = .ok (.iaload, 1) := by decide +kernel
theorem d_La_law_315 : decode code 315 = .ok (.i2l, 1) := by decide +kernel
theorem d_La_law_316 : decode code 316 = .ok (.ldc2_w 13, 3) := by decide +kernel
theorem d_La_law_319 : decode code 319 = .ok (.land, 1) := by decide +kernel
theorem d_La_law_320 : decode code 320 = .ok (.lor, 1) := by decide +kernel
theorem d_La_law_321 : decode code 321 = .ok (.invokevirtual 43, 3) := by decide +kernel
theorem d_La_law_324 : decode code 324 = .ok (.aload_n 2, 1) := by decide +kernel
theorem d_La_law_325 : decode code 325 = .ok (.aload_n 0, 1) := by decide +kernel
theorem d_La_law_326 : decode code 326 = .ok (.iload_n 3, 1) := by decide +kernel
theorem d_La_law_327 : decode code 327 = .ok (.iconst 1, 1) := by decide +kernel
theorem d_La_law_328 : decode code 328 = .ok (.iadd, 1) := by decide +kernel
theorem d_La_law_329 : decode code 329 = .ok (.iaload, 1) := by decide +kernel
theorem d_La_law_330 : decode code 330 = .ok (.aload_n 0, 1) := by decide +kernel
theorem d_La_law_331 : decode code 331 = .ok (.iload_n 3, 1) := by decide +kernel
theorem d_La_law_332 : decode code 332 = .ok (.iconst 2, 1) := by decide +kernel
theorem d_La_law_333 : decode code 333 = .ok (.iadd, 1) := by decide +kernel
theorem d_La_law_334 : decode code 334 = .ok (.iaload, 1) := by decide +kernel
theorem d_La_law_335 : decode code 335 = .ok (.aload_n 0, 1) := by decide +kernel
theorem d_La_law_336 : decode code 336 = .ok (.iload_n 3, 1) := by decide +kernel
theorem d_La_law_337 : decode code 337 = .ok (.iconst 3, 1) := by decide +kernel
theorem d_La_law_338 : decode code 338 = .ok (.iadd, 1) := by decide +kernel
theorem d_La_law_339 : decode code 339 = .ok (.iaload, 1) := by decide +kernel
theorem d_La_law_340 : decode code 340 = .ok (.i2l, 1) := by decide +kernel
theorem d_La_law_341 : decode code 341 = .ok (.bipush 32, 2) := by decide +kernel
theorem d_La_law_343 : decode code 343 = .ok (.lshl, 1) := by decide +kernel
theorem d_La_law_344 : decode code 344 = .ok (.aload_n 0, 1) := by decide +kernel
theorem d_La_law_345 : decode code 345 = .ok (.iload_n 3, 1) := by decide +kernel
theorem d_La_law_346 : decode code 346 = .ok (.iconst 4, 1) := by decide +kernel
theorem d_La_law_347 : decode code 347 = .ok (.iadd, 1) := by decide +kernel
theorem d_La_law_348 : decode code 348 = .ok (.iaload, 1) := by decide +kernel
theorem d_La_law_349 : decode code 349 = .ok (.i2l, 1) := by decide +kernel
theorem d_La_law_350 : decode code 350 = .ok (.ldc2_w 13, 3) := by decide +kernel
theorem d_La_law_353 : decode code 353 = .ok (.land, 1) := by decide +kernel
theorem d_La_law_354 : decode code 354 = .ok (.lor, 1) := by decide +kernel
theorem d_La_law_355 : decode code 355 = .ok (.invokevirtual 47, 3) := by decide +kernel
theorem d_La_law_358 : decode code 358 = .ok (.if_icmp .eq 539, 3) := by decide +kernel
theorem d_La_law_361 : decode code 361 = .ok (.iconst 0, 1) := by decide +kernel
theorem d_La_law_362 : decode code 362 = .ok (.ireturn, 1) := by decide +kernel
theorem d_La_law_363 : decode code 363 = .ok (.aload_n 1, 1) := by decide +kernel
theorem d_La_law_364 : decode code 364 = .ok (.aload_n 0, 1) := by decide +kernel
theorem d_La_law_365 : decode code 365 = .ok (.iload_n 3, 1) := by decide +kernel
theorem d_La_law_366 : decode code 366 = .ok (.iconst 1, 1) := by decide +kernel
theorem d_La_law_367 : decode code 367 = .ok (.iadd, 1) := by decide +kernel
theorem d_La_law_368 : decode code 368 = .ok (.iaload, 1) := by decide +kernel
theorem d_La_law_369 : decode code 369 = .ok (.aload_n 0, 1) := by decide +kernel
theorem d_La_law_370 : decode code 370 = .ok (.iload_n 3, 1) := by decide +kernel
theorem d_La_law_371 : decode code 371 = .ok (.iconst 2, 1) := by decide +kernel
theorem d_La_law_372 : decode code 372 = .ok (.iadd, 1) := by decide +kernel
theorem d_La_law_373 : decode code 373 = .ok (.iaload, 1) := by decide +kernel
theorem d_La_law_374 : decode code 374 = .ok (.i2c, 1) := by decide +kernel
theorem d_La_law_375 : decode code 375 = .ok (.invokevirtual 48, 3) := by decide +kernel
theorem d_La_law_378 : decode code 378 = .ok (.aload_n 2, 1) := by decide +kernel
theorem d_La_law_379 : decode code 379 = .ok (.aload_n 0, 1) := by decide +kernel
theorem d_La_law_380 : decode code 380 = .ok (.iload_n 3, 1) := by decide +kernel
theorem d_La_law_381 : decode code 381 = .ok (.iconst 1, 1) := by decide +kernel
theorem d_La_law_382 : decode code 382 = .ok (.iadd, 1) := by decide +kernel
theorem d_La_law_383 : decode code 383 = .ok (.iaload, 1) := by decide +kernel
theorem d_La_law_384 : decode code 384 = .ok (.aload_n 0, 1) := by decide +kernel
theorem d_La_law_385 : decode code 385 = .ok (.iload_n 3, 1) := by decide +kernel
theorem d_La_law_386 : decode code 386 = .ok (.iconst 2, 1) := by decide +kernel
theorem d_La_law_387 : decode code 387 = .ok (.iadd, 1) := by decide +kernel
theorem d_La_law_388 : decode code 388 = .ok (.iaload, 1) := by decide +kernel
theorem d_La_law_389 : decode code 389 = .ok (.i2c, 1) := by decide +kernel
theorem d_La_law_390 : decode code 390 = .ok (.invokevirtual 52, 3) := by decide +kernel
theorem d_La_law_393 : decode code 393 = .ok (.if_icmp .eq 504, 3) := by decide +kernel
theorem d_La_law_396 : decode code 396 = .ok (.iconst 0, 1) := by decide +kernel
theorem d_La_law_397 : decode code 397 = .ok (.ireturn, 1) := by decide +kernel
theorem d_La_law_398 : decode code 398 = .ok (.aload_n 1, 1) := by decide +kernel
theorem d_La_law_399 : decode code 399 = .ok (.aload_n 0, 1) := by decide +kernel
theorem d_La_law_400 : decode code 400 = .ok (.iload_n 3, 1) := by decide +kernel
theorem d_La_law_401 : decode code 401 = .ok (.iconst 1, 1) := by decide +kernel
theorem d_La_law_402 : decode code 402 = .ok (.iadd, 1) := by decide +kernel
theorem d_La_law_403 : decode code 403 = .ok (.iaload, 1) := by decide +kernel
theorem d_La_law_404 : decode code 404 = .ok (.aload_n 0, 1) := by decide +kernel
theorem d_La_law_405 : decode code 405 = .ok (.iload_n 3, 1) := by decide +kernel
theorem d_La_law_406 : decode code 406 = .ok (.iconst 2, 1) := by decide +kernel
theorem d_La_law_407 : decode code 407 = .ok (.iadd, 1) := by decide +kernel
theorem d_La_law_408 : decode code 408 = .ok (.iaload, 1) := by decide +kernel
theorem d_La_law_409 : decode code 409 = .ok (.invokevirtual 53, 3) := by decide +kernel
theorem d_La_law_412 : decode code 412 = .ok (.aload_n 2, 1) := by decide +kernel
theorem d_La_law_413 : decode code 413 = .ok (.aload_n 0, 1) := by decide +kernel
theorem d_La_law_414 : decode code 414 = .ok (.iload_n 3, 1) := by decide +kernel
theorem d_La_law_415 : decode code 415 = .ok (.iconst 1, 1) := by decide +kernel
theorem d_La_law_416 : decode code 416 = .ok (.iadd, 1) := by decide +kernel
theorem d_La_law_417 : decode code 417 = .ok (.iaload, 1) := by decide +kernel
theorem d_La_law_418 : decode code 418 = .ok (.aload_n 0, 1) := by decide +kernel
theorem d_La_law_419 : decode code 419 = .ok (.iload_n 3, 1) := by decide +kernel
theorem d_La_law_420 : decode code 420 = .ok (.iconst 2, 1) := by decide +kernel
theorem d_La_law_421 : decode code 421 = .ok (.iadd, 1) := by decide +kernel
theorem d_La_law_422 : decode code 422 = .ok (.iaload, 1) := by decide +kernel
theorem d_La_law_423 : decode code 423 = .ok (.invokevirtual 57, 3) := by decide +kernel
theorem d_La_law_426 : decode code 426 = .ok (.if_icmp .eq 471, 3) := by decide +kernel
theorem d_La_law_429 : decode code 429 = .ok (.iconst 0, 1) := by decide +kernel
theorem d_La_law_430 : decode code 430 = .ok (.ireturn, 1) := by decide +kernel
theorem d_La_law_431 : decode code 431 = .ok (.aload_n 1, 1) := by decide +kernel
theorem d_La_law_432 : decode code 432 = .ok (.aload_n 0, 1) := by decide +kernel
theorem d_La_law_433 : decode code 433 = .ok (.iload_n 3, 1) := by decide +kernel
theorem d_La_law_434 : decode code 434 = .ok (.iconst 1, 1) := by decide +kernel
theorem d_La_law_435 : decode code 435 = .ok (.iadd, 1) := by decide +kernel
theorem d_La_law_436 : decode code 436 = .ok (.iaload, 1) := by decide +kernel
theorem d_La_law_437 : decode code 437 = .ok (.aload_n 0, 1) := by decide +kernel
theorem d_La_law_438 : decode code 438 = .ok (.iload_n 3, 1) := by decide +kernel
theorem d_La_law_439 : decode code 439 = .ok (.iconst 2, 1) := by decide +kernel
theorem d_La_law_440 : decode code 440 = .ok (.iadd, 1) := by decide +kernel
theorem d_La_law_441 : decode code 441 = .ok (.iaload, 1) := by decide +kernel
theorem d_La_law_442 : decode code 442 = .ok (.aload_n 0, 1) := by decide +kernel
theorem d_La_law_443 : decode code 443 = .ok (.iload_n 3, 1) := by decide +kernel
theorem d_La_law_444 : decode code 444 = .ok (.iconst 3, 1) := by decide +kernel
theorem d_La_law_445 : decode code 445 = .ok (.iadd, 1) := by decide +kernel
theorem d_La_law_446 : decode code 446 = .ok (.iaload, 1) := by decide +kernel
theorem d_La_law_447 : decode code 447 = .ok (.aload_n 0, 1) := by decide +kernel
theorem d_La_law_448 : decode code 448 = .ok (.iload_n 3, 1) := by decide +kernel
theorem d_La_law_449 : decode code 449 = .ok (.iconst 4, 1) := by decide +kernel
theorem d_La_law_450 : decode code 450 = .ok (.iadd, 1) := by decide +kernel
theorem d_La_law_451 : decode code 451 = .ok (.iaload, 1) := by decide +kernel
theorem d_La_law_452 : decode code 452 = .ok (.ifCond .eq 7, 3) := by decide +kernel
theorem d_La_law_455 : decode code 455 = .ok (.iconst 1, 1) := by decide +kernel
theorem d_La_law_456 : decode code 456 = .ok (.goto 4, 3) := by decide +kernel
theorem d_La_law_459 : decode code 459 = .ok (.iconst 0, 1) := by decide +kernel
theorem d_La_law_460 : decode code 460 = .ok (.aload_n 0, 1) := by decide +kernel
theorem d_La_law_461 : decode code 461 = .ok (.iload_n 3, 1) := by decide +kernel
theorem d_La_law_462 : decode code 462 = .ok (.iconst 5, 1) := by decide +kernel
theorem d_La_law_463 : decode code 463 = .ok (.iadd, 1) := by decide +kernel
theorem d_La_law_464 : decode code 464 = .ok (.iaload, 1) := by decide +kernel
theorem d_La_law_465 : decode code 465 = .ok (.invokevirtual 58, 3) := by decide +kernel
theorem d_La_law_468 : decode code 468 = .ok (.aload_n 2, 1) := by decide +kernel
theorem d_La_law_469 : decode code 469 = .ok (.aload_n 0, 1) := by decide +kernel
theorem d_La_law_470 : decode code 470 = .ok (.iload_n 3, 1) := by decide +kernel
theorem d_La_law_471 : decode code 471 = .ok (.iconst 1, 1) := by decide +kernel
theorem d_La_law_472 : decode code 472 = .ok (.iadd, 1) := by decide +kernel
theorem d_La_law_473 : decode code 473 = .ok (.iaload, 1) := by decide +kernel
theorem d_La_law_474 : decode code 474 = .ok (.aload_n 0, 1) := by decide +kernel
theorem d_La_law_475 : decode code 475 = .ok (.iload_n 3, 1) := by decide +kernel
theorem d_La_law_476 : decode code 476 = .ok (.iconst 2, 1) := by decide +kernel
theorem d_La_law_477 : decode code 477 = .ok (.iadd, 1) := by decide +kernel
theorem d_La_law_478 : decode code 478 = .ok (.iaload, 1) := by decide +kernel
theorem d_La_law_479 : decode code 479 = .ok (.aload_n 0, 1) := by decide +kernel
theorem d_La_law_480 : decode code 480 = .ok (.iload_n 3, 1) := by decide +kernel
theorem d_La_law_481 : decode code 481 = .ok (.iconst 3, 1) := by decide +kernel
theorem d_La_law_482 : decode code 482 = .ok (.iadd, 1) := by decide +kernel
theorem d_La_law_483 : decode code 483 = .ok (.iaload, 1) := by decide +kernel
theorem d_La_law_484 : decode code 484 = .ok (.aload_n 0, 1) := by decide +kernel
theorem d_La_law_485 : decode code 485 = .ok (.iload_n 3, 1) := by decide +kernel
theorem d_La_law_486 : decode code 486 = .ok (.iconst 4, 1) := by decide +kernel
theorem d_La_law_487 : decode code 487 = .ok (.iadd, 1) := by decide +kernel
theorem d_La_law_488 : decode code 488 = .ok (.iaload, 1) := by decide +kernel
theorem d_La_law_489 : decode code 489 = .ok (.ifCond .eq 7, 3) := by decide +kernel
theorem d_La_law_492 : decode code 492 = .ok (.iconst 1, 1) := by decide +kernel
theorem d_La_law_493 : decode code 493 = .ok (.goto 4, 3) := by decide +kernel
theorem d_La_law_496 : decode code 496 = .ok (.iconst 0, 1) := by decide +kernel
theorem d_La_law_497 : decode code 497 = .ok (.aload_n 0, 1) := by decide +kernel
theorem d_La_law_498 : decode code 498 = .ok (.iload_n 3, 1) := by decide +kernel
theorem d_La_law_499 : decode code 499 = .ok (.iconst 5, 1) := by decide +kernel
theorem d_La_law_500 : decode code 500 = .ok (.iadd, 1) := by decide +kernel
theorem d_La_law_501 : decode code 501 = .ok (.iaload, 1) := by decide +kernel
theorem d_La_law_502 : decode code 502 = .ok (.invokevirtual 62, 3) := by decide +kernel
theorem d_La_law_505 : decode code 505 = .ok (.if_icmp .eq 392, 3) := by decide +kernel
theorem d_La_law_508 : decode code 508 = .ok (.iconst 0, 1) := by decide +kernel
theorem d_La_law_509 : decode code 509 = .ok (.ireturn, 1) := by decide +kernel
theorem d_La_law_510 : decode code 510 = .ok (.aload_n 1, 1) := by decide +kernel
theorem d_La_law_511 : decode code 511 = .ok (.aload_n 0, 1) := by decide +kernel
theorem d_La_law_512 : decode code 512 = .ok (.iload_n 3, 1) := by decide +kernel
theorem d_La_law_513 : decode code 513 = .ok (.iconst 1, 1) := by decide +kernel
theorem d_La_law_514 : decode code 514 = .ok (.iadd, 1) := by decide +kernel
theorem d_La_law_515 : decode code 515 = .ok (.iaload, 1) := by decide +kernel
theorem d_La_law_516 : decode code 516 = .ok (.invokevirtual 63, 3) := by decide +kernel
theorem d_La_law_519 : decode code 519 = .ok (.aload_n 2, 1) := by decide +kernel
theorem d_La_law_520 : decode code 520 = .ok (.aload_n 0, 1) := by decide +kernel
theorem d_La_law_521 : decode code 521 = .ok (.iload_n 3, 1) := by decide +kernel
theorem d_La_law_522 : decode code 522 = .ok (.iconst 1, 1) := by decide +kernel
theorem d_La_law_523 : decode code 523 = .ok (.iadd, 1) := by decide +kernel
theorem d_La_law_524 : decode code 524 = .ok (.iaload, 1) := by decide +kernel
theorem d_La_law_525 : decode code 525 = .ok (.invokevirtual 66, 3) := by decide +kernel
theorem d_La_law_528 : decode code 528 = .ok (.if_icmp .eq 369, 3) := by decide +kernel
theorem d_La_law_531 : decode code 531 = .ok (.iconst 0, 1) := by decide +kernel
theorem d_La_law_532 : decode code 532 = .ok (.ireturn, 1) := by decide +kernel
theorem d_La_law_533 : decode code 533 = .ok (.aload_n 1, 1) := by decide +kernel
theorem d_La_law_534 : decode code 534 = .ok (.aload_n 0, 1) := by decide +kernel
theorem d_La_law_535 : decode code 535 = .ok (.iload_n 3, 1) := by decide +kernel
theorem d_La_law_536 : decode code 536 = .ok (.iconst 1, 1) := by decide +kernel
theorem d_La_law_537 : decode code 537 = .ok (.iadd, 1) := by decide +kernel
theorem d_La_law_538 : decode code 538 = .ok (.iaload, 1) := by decide +kernel
theorem d_La_law_539 : decode code 539 = .ok (.invokevirtual 67, 3) := by decide +kernel
theorem d_La_law_542 : decode code 542 = .ok (.aload_n 2, 1) := by decide +kernel
theorem d_La_law_543 : decode code 543 = .ok (.aload_n 0, 1) := by decide +kernel
theorem d_La_law_544 : decode code 544 = .ok (.iload_n 3, 1) := by decide +kernel
theorem d_La_law_545 : decode code 545 = .ok (.iconst 1, 1) := by decide +kernel
theorem d_La_law_546 : decode code 546 = .ok (.iadd, 1) := by decide +kernel
theorem d_La_law_547 : decode code 547 = .ok (.iaload, 1) := by decide +kernel
theorem d_La_law_548 : decode code 548 = .ok (.invokevirtual 70, 3) := by decide +kernel
theorem d_La_law_551 : decode code 551 = .ok (.if_icmp .eq 346, 3) := by decide +kernel
theorem d_La_law_554 : decode code 554 = .ok (.iconst 0, 1) := by decide +kernel
theorem d_La_law_555 : decode code 555 = .ok (.ireturn, 1) := by decide +kernel
theorem d_La_law_556 : decode code 556 = .ok (.aload_n 1, 1) := by decide +kernel
theorem d_La_law_557 : decode code 557 = .ok (.aload_n 0, 1) := by decide +kernel
theorem d_La_law_558 : decode code 558 = .ok (.iload_n 3, 1) := by decide +kernel
theorem d_La_law_559 : decode code 559 = .ok (.iconst 1, 1) := by decide +kernel
theorem d_La_law_560 : decode code 560 = .ok (.iadd, 1) := by decide +kernel
theorem d_La_law_561 : decode code 561 = .ok (.iaload, 1) := by decide +kernel
theorem d_La_law_562 : decode code 562 = .ok (.invokevirtual 71, 3) := by decide +kernel
theorem d_La_law_565 : decode code 565 = .ok (.aload_n 2, 1) := by decide +kernel
theorem d_La_law_566 : decode code 566 = .ok (.aload_n 0, 1) := by decide +kernel
theorem d_La_law_567 : decode code 567 = .ok (.iload_n 3, 1) := by decide +kernel
theorem d_La_law_568 : decode code 568 = .ok (.iconst 1, 1) := by decide +kernel
theorem d_La_law_569 : decode code 569 = .ok (.iadd, 1) := by decide +kernel
theorem d_La_law_570 : decode code 570 = .ok (.iaload, 1) := by decide +kernel
theorem d_La_law_571 : decode code 571 = .ok (.invokevirtual 75, 3) := by decide +kernel
theorem d_La_law_574 : decode code 574 = .ok (.lcmp, 1) := by decide +kernel
theorem d_La_law_575 : decode code 575 = .ok (.ifCond .eq 322, 3) := by decide +kernel
theorem d_La_law_578 : decode code 578 = .ok (.iconst 0, 1) := by decide +kernel
theorem d_La_law_579 : decode code 579 = .ok (.ireturn, 1) := by decide +kernel
theorem d_La_law_580 : decode code 580 = .ok (.aload_n 1, 1) := by decide +kernel
theorem d_La_law_581 : decode code 581 = .ok (.aload_n 0, 1) := by decide +kernel
theorem d_La_law_582 : decode code 582 = .ok (.iload_n 3, 1) := by decide +kernel
theorem d_La_law_583 : decode code 583 = .ok (.iconst 1, 1) := by decide +kernel
theorem d_La_law_584 : decode code 584 = .ok (.iadd, 1) := by decide +kernel
theorem d_La_law_585 : decode code 585 = .ok (.iaload, 1) := by decide +kernel
theorem d_La_law_586 : decode code 586 = .ok (.aload_n 0, 1) := by decide +kernel
theorem d_La_law_587 : decode code 587 = .ok (.iload_n 3, 1) := by decide +kernel
theorem d_La_law_588 : decode code 588 = .ok (.iconst 2, 1) := by decide +kernel
theorem d_La_law_589 : decode code 589 = .ok (.iadd, 1) := by decide +kernel
theorem d_La_law_590 : decode code 590 = .ok (.iaload, 1) := by decide +kernel
theorem d_La_law_591 : decode code 591 = .ok (.invokevirtual 76, 3) := by decide +kernel
theorem d_La_law_594 : decode code 594 = .ok (.aload_n 2, 1) := by decide +kernel
theorem d_La_law_595 : decode code 595 = .ok (.aload_n 0, 1) := by decide +kernel
theorem d_La_law_596 : decode code 596 = .ok (.iload_n 3, 1) := by decide +kernel
theorem d_La_law_597 : decode code 597 = .ok (.iconst 1, 1) := by decide +kernel
theorem d_La_law_598 : decode code 598 = .ok (.iadd, 1) := by decide +kernel
theorem d_La_law_599 : decode code 599 = .ok (.iaload, 1) := by decide +kernel
theorem d_La_law_600 : decode code 600 = .ok (.aload_n 0, 1) := by decide +kernel
theorem d_La_law_601 : decode code 601 = .ok (.iload_n 3, 1) := by decide +kernel
theorem d_La_law_602 : decode code 602 = .ok (.iconst 2, 1) := by decide +kernel
theorem d_La_law_603 : decode code 603 = .ok (.iadd, 1) := by decide +kernel
theorem d_La_law_604 : decode code 604 = .ok (.iaload, 1) := by decide +kernel
theorem d_La_law_605 : decode code 605 = .ok (.invokevirtual 79, 3) := by decide +kernel
theorem d_La_law_608 : decode code 608 = .ok (.if_icmp .eq 289, 3) := by decide +kernel
theorem d_La_law_611 : decode code 611 = .ok (.iconst 0, 1) := by decide +kernel
theorem d_La_law_612 : decode code 612 = .ok (.ireturn, 1) := by decide +kernel
theorem d_La_law_613 : decode code 613 = .ok (.aload_n 1, 1) := by decide +kernel
theorem d_La_law_614 : decode code 614 = .ok (.aload_n 0, 1) := by decide +kernel
theorem d_La_law_615 : decode code 615 = .ok (.iload_n 3, 1) := by decide +kernel
theorem d_La_law_616 : decode code 616 = .ok (.iconst 1, 1) := by decide +kernel
theorem d_La_law_617 : decode code 617 = .ok (.iadd, 1) := by decide +kernel
theorem d_La_law_618 : decode code 618 = .ok (.iaload, 1) := by decide +kernel
theorem d_La_law_619 : decode code 619 = .ok (.aload_n 0, 1) := by decide +kernel
theorem d_La_law_620 : decode code 620 = .ok (.iload_n 3, 1) := by decide +kernel
theorem d_La_law_621 : decode code 621 = .ok (.iconst 2, 1) := by decide +kernel
theorem d_La_law_622 : decode code 622 = .ok (.iadd, 1) := by decide +kernel
theorem d_La_law_623 : decode code 623 = .ok (.iaload, 1) := by decide +kernel
theorem d_La_law_624 : decode code 624 = .ok (.aload_n 0, 1) := by decide +kernel
theorem d_La_law_625 : decode code 625 = .ok (.iload_n 3, 1) := by decide +kernel
theorem d_La_law_626 : decode code 626 = .ok (.iconst 3, 1) := by decide +kernel
theorem d_La_law_627 : decode code 627 = .ok (.iadd, 1) := by decide +kernel
theorem d_La_law_628 : decode code 628 = .ok (.iaload, 1) := by decide +kernel
theorem d_La_law_629 : decode code 629 = .ok (.invokevirtual 80, 3) := by decide +kernel
theorem d_La_law_632 : decode code 632 = .ok (.aload_n 2, 1) := by decide +kernel
theorem d_La_law_633 : decode code 633 = .ok (.aload_n 0, 1) := by decide +kernel
theorem d_La_law_634 : decode code 634 = .ok (.iload_n 3, 1) := by decide +kernel
theorem d_La_law_635 : decode code 635 = .ok (.iconst 1, 1) := by decide +kernel
theorem d_La_law_636 : decode code 636 = .ok (.iadd, 1) := by decide +kernel
theorem d_La_law_637 : decode code 637 = .ok (.iaload, 1) := by decide +kernel
theorem d_La_law_638 : decode code 638 = .ok (.aload_n 0, 1) := by decide +kernel
theorem d_La_law_639 : decode code 639 = .ok (.iload_n 3, 1) := by decide +kernel
theorem d_La_law_640 : decode code 640 = .ok (.iconst 2, 1) := by decide +kernel
theorem d_La_law_641 : decode code 641 = .ok (.iadd, 1) := by decide +kernel
theorem d_La_law_642 : decode code 642 = .ok (.iaload, 1) := by decide +kernel
theorem d_La_law_643 : decode code 643 = .ok (.aload_n 0, 1) := by decide +kernel
theorem d_La_law_644 : decode code 644 = .ok (.iload_n 3, 1) := by decide +kernel
theorem d_La_law_645 : decode code 645 = .ok (.iconst 3, 1) := by decide +kernel
theorem d_La_law_646 : decode code 646 = .ok (.iadd, 1) := by decide +kernel
theorem d_La_law_647 : decode code 647 = .ok (.iaload, 1) := by decide +kernel
theorem d_La_law_648 : decode code 648 = .ok (.invokevirtual 84, 3) := by decide +kernel
theorem d_La_law_651 : decode code 651 = .ok (.if_icmp .eq 246, 3) := by decide +kernel
theorem d_La_law_654 : decode code 654 = .ok (.iconst 0, 1) := by decide +kernel
theorem d_La_law_655 : decode code 655 = .ok (.ireturn, 1) := by decide +kernel
theorem d_La_law_656 : decode code 656 = .ok (.aload_n 1, 1) := by decide +kernel
theorem d_La_law_657 : decode code 657 = .ok (.aload_n 0, 1) := by decide +kernel
theorem d_La_law_658 : decode code 658 = .ok (.iload_n 3, 1) := by decide +kernel
theorem d_La_law_659 : decode code 659 = .ok (.iconst 1, 1) := by decide +kernel
theorem d_La_law_660 : decode code 660 = .ok (.iadd, 1) := by decide +kernel
theorem d_La_law_661 : decode code 661 = .ok (.iaload, 1) := by decide +kernel
theorem d_La_law_662 : decode code 662 = .ok (.aload_n 0, 1) := by decide +kernel
theorem d_La_law_663 : decode code 663 = .ok (.iload_n 3, 1) := by decide +kernel
theorem d_La_law_664 : decode code 664 = .ok (.iconst 2, 1) := by decide +kernel
theorem d_La_law_665 : decode code 665 = .ok (.iadd, 1) := by decide +kernel
theorem d_La_law_666 : decode code 666 = .ok (.iaload, 1) := by decide +kernel
theorem d_La_law_667 : decode code 667 = .ok (.invokevirtual 85, 3) := by decide +kernel
theorem d_La_law_670 : decode code 670 = .ok (.aload_n 2, 1) := by decide +kernel
theorem d_La_law_671 : decode code 671 = .ok (.aload_n 0, 1) := by decide +kernel
theorem d_La_law_672 : decode code 672 = .ok (.iload_n 3, 1) := by decide +kernel
theorem d_La_law_673 : decode code 673 = .ok (.iconst 1, 1) := by decide +kernel
theorem d_La_law_674 : decode code 674 = .ok (.iadd, 1) := by decide +kernel
theorem d_La_law_675 : decode code 675 = .ok (.iaload, 1) := by decide +kernel
theorem d_La_law_676 : decode code 676 = .ok (.aload_n 0, 1) := by decide +kernel
theorem d_La_law_677 : decode code 677 = .ok (.iload_n 3, 1) := by decide +kernel
theorem d_La_law_678 : decode code 678 = .ok (.iconst 2, 1) := by decide +kernel
theorem d_La_law_679 : decode code 679 = .ok (.iadd, 1) := by decide +kernel
theorem d_La_law_680 : decode code 680 = .ok (.iaload, 1) := by decide +kernel
theorem d_La_law_681 : decode code 681 = .ok (.invokevirtual 88, 3) := by decide +kernel
theorem d_La_law_684 : decode code 684 = .ok (.if_icmp .eq 213, 3) := by decide +kernel
theorem d_La_law_687 : decode code 687 = .ok (.iconst 0, 1) := by decide +kernel
theorem d_La_law_688 : decode code 688 = .ok (.ireturn, 1) := by decide +kernel
theorem d_La_law_689 : decode code 689 = .ok (.aload_n 1, 1) := by decide +kernel
theorem d_La_law_690 : decode code 690 = .ok (.aload_n 0, 1) := by decide +kernel
theorem d_La_law_691 : decode code 691 = .ok (.iload_n 3, 1) := by decide +kernel
theorem d_La_law_692 : decode code 692 = .ok (.iconst 1, 1) := by decide +kernel
theorem d_La_law_693 : decode code 693 = .ok (.iadd, 1) := by decide +kernel
theorem d_La_law_694 : decode code 694 = .ok (.iaload, 1) := by decide +kernel
theorem d_La_law_695 : decode code 695 = .ok (.ifCond .eq 7, 3) := by decide +kernel
theorem d_La_law_698 : decode code 698 = .ok (.iconst 1, 1) := by decide +kernel
theorem d_La_law_699 : decode code 699 = .ok (.goto 4, 3) := by decide +kernel
theorem d_La_law_702 : decode code 702 = .ok (.iconst 0, 1) := by decide +kernel
theorem d_La_law_703 : decode code 703 = .ok (.invokevirtual 89, 3) := by decide +kernel
theorem d_La_law_706 : decode code 706 = .ok (.aload_n 2, 1) := by decide +kernel
theorem d_La_law_707 : decode code 707 = .ok (.aload_n 0, 1) := by decide +kernel
theorem d_La_law_708 : decode code 708 = .ok (.iload_n 3, 1) := by decide +kernel
theorem d_La_law_709 : decode code 709 = .ok (.iconst 1, 1) := by decide +kernel
theorem d_La_law_710 : decode code 710 = .ok (.iadd, 1) := by decide +kernel
theorem d_La_law_711 : decode code 711 = .ok (.iaload, 1) := by decide +kernel
theorem d_La_law_712 : decode code 712 = .ok (.ifCond .eq 7, 3) := by decide +kernel
theorem d_La_law_715 : decode code 715 = .ok (.iconst 1, 1) := by decide +kernel
theorem d_La_law_716 : decode code 716 = .ok (.goto 4, 3) := by decide +kernel
theorem d_La_law_719 : decode code 719 = .ok (.iconst 0, 1) := by decide +kernel
theorem d_La_law_720 : decode code 720 = .ok (.invokevirtual 92, 3) := by decide +kernel
theorem d_La_law_723 : decode code 723 = .ok (.if_icmp .eq 174, 3) := by decide +kernel
theorem d_La_law_726 : decode code 726 = .ok (.iconst 0, 1) := by decide +kernel
theorem d_La_law_727 : decode code 727 = .ok (.ireturn, 1) := by decide +kernel
theorem d_La_law_728 : decode code 728 = .ok (.aload_n 1, 1) := by decide +kernel
theorem d_La_law_729 : decode code 729 = .ok (.aload_n 0, 1) := by decide +kernel
theorem d_La_law_730 : decode code 730 = .ok (.iload_n 3, 1) := by decide +kernel
theorem d_La_law_731 : decode code 731 = .ok (.iconst 1, 1) := by decide +kernel
theorem d_La_law_732 : decode code 732 = .ok (.iadd, 1) := by decide +kernel
theorem d_La_law_733 : decode code 733 = .ok (.iaload, 1) := by decide +kernel
theorem d_La_law_734 : decode code 734 = .ok (.invokevirtual 93, 3) := by decide +kernel
theorem d_La_law_737 : decode code 737 = .ok (.aload_n 2, 1) := by decide +kernel
theorem d_La_law_738 : decode code 738 = .ok (.aload_n 0, 1) := by decide +kernel
theorem d_La_law_739 : decode code 739 = .ok (.iload_n 3, 1) := by decide +kernel
theorem d_La_law_740 : decode code 740 = .ok (.iconst 1, 1) := by decide +kernel
theorem d_La_law_741 : decode code 741 = .ok (.iadd, 1) := by decide +kernel
theorem d_La_law_742 : decode code 742 = .ok (.iaload, 1) := by decide +kernel
theorem d_La_law_743 : decode code 743 = .ok (.invokevirtual 96, 3) := by decide +kernel
theorem d_La_law_746 : decode code 746 = .ok (.if_icmp .eq 151, 3) := by decide +kernel
theorem d_La_law_749 : decode code 749 = .ok (.iconst 0, 1) := by decide +kernel
theorem d_La_law_750 : decode code 750 = .ok (.ireturn, 1) := by decide +kernel
theorem d_La_law_751 : decode code 751 = .ok (.aload_n 1, 1) := by decide +kernel
theorem d_La_law_752 : decode code 752 = .ok (.aload_n 0, 1) := by decide +kernel
theorem d_La_law_753 : decode code 753 = .ok (.iload_n 3, 1) := by decide +kernel
theorem d_La_law_754 : decode code 754 = .ok (.iconst 1, 1) := by decide +kernel
theorem d_La_law_755 : decode code 755 = .ok (.iadd, 1) := by decide +kernel
theorem d_La_law_756 : decode code 756 = .ok (.iaload, 1) := by decide +kernel
theorem d_La_law_757 : decode code 757 = .ok (.aload_n 0, 1) := by decide +kernel
theorem d_La_law_758 : decode code 758 = .ok (.iload_n 3, 1) := by decide +kernel
theorem d_La_law_759 : decode code 759 = .ok (.iconst 2, 1) := by decide +kernel
theorem d_La_law_760 : decode code 760 = .ok (.iadd, 1) := by decide +kernel
theorem d_La_law_761 : decode code 761 = .ok (.iaload, 1) := by decide +kernel
theorem d_La_law_762 : decode code 762 = .ok (.aload_n 0, 1) := by decide +kernel
theorem d_La_law_763 : decode code 763 = .ok (.iload_n 3, 1) := by decide +kernel
theorem d_La_law_764 : decode code 764 = .ok (.iconst 3, 1) := by decide +kernel
theorem d_La_law_765 : decode code 765 = .ok (.iadd, 1) := by decide +kernel
theorem d_La_law_766 : decode code 766 = .ok (.iaload, 1) := by decide +kernel
theorem d_La_law_767 : decode code 767 = .ok (.i2l, 1) := by decide +kernel
theorem d_La_law_768 : decode code 768 = .ok (.bipush 32, 2) := by decide +kernel
theorem d_La_law_770 : decode code 770 = .ok (.lshl, 1) := by decide +kernel
theorem d_La_law_771 : decode code 771 = .ok (.aload_n 0, 1) := by decide +kernel
theorem d_La_law_772 : decode code 772 = .ok (.iload_n 3, 1) := by decide +kernel
theorem d_La_law_773 : decode code 773 = .ok (.iconst 4, 1) := by decide +kernel
theorem d_La_law_774 : decode code 774 = .ok (.iadd, 1) := by decide +kernel
theorem d_La_law_775 : decode code 775 = .ok (.iaload, 1) := by decide +kernel
theorem d_La_law_776 : decode code 776 = .ok (.i2l, 1) := by decide +kernel
theorem d_La_law_777 : decode code 777 = .ok (.ldc2_w 13, 3) := by decide +kernel
theorem d_La_law_780 : decode code 780 = .ok (.land, 1) := by decide +kernel
theorem d_La_law_781 : decode code 781 = .ok (.lor, 1) := by decide +kernel
theorem d_La_law_782 : decode code 782 = .ok (.invokevirtual 97, 3) := by decide +kernel
theorem d_La_law_785 : decode code 785 = .ok (.aload_n 2, 1) := by decide +kernel
theorem d_La_law_786 : decode code 786 = .ok (.aload_n 0, 1) := by decide +kernel
theorem d_La_law_787 : decode code 787 = .ok (.iload_n 3, 1) := by decide +kernel
theorem d_La_law_788 : decode code 788 = .ok (.iconst 1, 1) := by decide +kernel
theorem d_La_law_789 : decode code 789 = .ok (.iadd, 1) := by decide +kernel
theorem d_La_law_790 : decode code 790 = .ok (.iaload, 1) := by decide +kernel
theorem d_La_law_791 : decode code 791 = .ok (.aload_n 0, 1) := by decide +kernel
theorem d_La_law_792 : decode code 792 = .ok (.iload_n 3, 1) := by decide +kernel
theorem d_La_law_793 : decode code 793 = .ok (.iconst 2, 1) := by decide +kernel
theorem d_La_law_794 : decode code 794 = .ok (.iadd, 1) := by decide +kernel
theorem d_La_law_795 : decode code 795 = .ok (.iaload, 1) := by decide +kernel
theorem d_La_law_796 : decode code 796 = .ok (.aload_n 0, 1) := by decide +kernel
theorem d_La_law_797 : decode code 797 = .ok (.iload_n 3, 1) := by decide +kernel
theorem d_La_law_798 : decode code 798 = .ok (.iconst 3, 1) := by decide +kernel
theorem d_La_law_799 : decode code 799 = .ok (.iadd, 1) := by decide +kernel
theorem d_La_law_800 : decode code 800 = .ok (.iaload, 1) := by decide +kernel
theorem d_La_law_801 : decode code 801 = .ok (.i2l, 1) := by decide +kernel
theorem d_La_law_802 : decode code 802 = .ok (.bipush 32, 2) := by decide +kernel
theorem d_La_law_804 : decode code 804 = .ok (.lshl, 1) := by decide +kernel
theorem d_La_law_805 : decode code 805 = .ok (.aload_n 0, 1) := by decide +kernel
theorem d_La_law_806 : decode code 806 = .ok (.iload_n 3, 1) := by decide +kernel
theorem d_La_law_807 : decode code 807 = .ok (.iconst 4, 1) := by decide +kernel
theorem d_La_law_808 : decode code 808 = .ok (.iadd, 1) := by decide +kernel
theorem d_La_law_809 : decode code 809 = .ok (.iaload, 1) := by decide +kernel
theorem d_La_law_810 : decode code 810 = .ok (.i2l, 1) := by decide +kernel
theorem d_La_law_811 : decode code 811 = .ok (.ldc2_w 13, 3) := by decide +kernel
theorem d_La_law_814 : decode code 814 = .ok (.land, 1) := by decide +kernel
theorem d_La_law_815 : decode code 815 = .ok (.lor, 1) := by decide +kernel
theorem d_La_law_816 : decode code 816 = .ok (.invokevirtual 100, 3) := by decide +kernel
theorem d_La_law_819 : decode code 819 = .ok (.if_icmp .eq 78, 3) := by decide +kernel
theorem d_La_law_822 : decode code 822 = .ok (.iconst 0, 1) := by decide +kernel
theorem d_La_law_823 : decode code 823 = .ok (.ireturn, 1) := by decide +kernel
theorem d_La_law_824 : decode code 824 = .ok (.aload_n 1, 1) := by decide +kernel
theorem d_La_law_825 : decode code 825 = .ok (.aload_n 0, 1) := by decide +kernel
theorem d_La_law_826 : decode code 826 = .ok (.iload_n 3, 1) := by decide +kernel
theorem d_La_law_827 : decode code 827 = .ok (.iconst 1, 1) := by decide +kernel
theorem d_La_law_828 : decode code 828 = .ok (.iadd, 1) := by decide +kernel
theorem d_La_law_829 : decode code 829 = .ok (.iaload, 1) := by decide +kernel
theorem d_La_law_830 : decode code 830 = .ok (.aload_n 0, 1) := by decide +kernel
theorem d_La_law_831 : decode code 831 = .ok (.iload_n 3, 1) := by decide +kernel
theorem d_La_law_832 : decode code 832 = .ok (.iconst 2, 1) := by decide +kernel
theorem d_La_law_833 : decode code 833 = .ok (.iadd, 1) := by decide +kernel
theorem d_La_law_834 : decode code 834 = .ok (.iaload, 1) := by decide +kernel
theorem d_La_law_835 : decode code 835 = .ok (.aload_n 0, 1) := by decide +kernel
theorem d_La_law_836 : decode code 836 = .ok (.iload_n 3, 1) := by decide +kernel
theorem d_La_law_837 : decode code 837 = .ok (.iconst 3, 1) := by decide +kernel
theorem d_La_law_838 : decode code 838 = .ok (.iadd, 1) := by decide +kernel
theorem d_La_law_839 : decode code 839 = .ok (.iaload, 1) := by decide +kernel
theorem d_La_law_840 : decode code 840 = .ok (.i2l, 1) := by decide +kernel
theorem d_La_law_841 : decode code 841 = .ok (.bipush 32, 2) := by decide +kernel
theorem d_La_law_843 : decode code 843 = .ok (.lshl, 1) := by decide +kernel
theorem d_La_law_844 : decode code 844 = .ok (.aload_n 0, 1) := by decide +kernel
theorem d_La_law_845 : decode code 845 = .ok (.iload_n 3, 1) := by decide +kernel
theorem d_La_law_846 : decode code 846 = .ok (.iconst 4, 1) := by decide +kernel
theorem d_La_law_847 : decode code 847 = .ok (.iadd, 1) := by decide +kernel
theorem d_La_law_848 : decode code 848 = .ok (.iaload, 1) := by decide +kernel
theorem d_La_law_849 : decode code 849 = .ok (.i2l, 1) := by decide +kernel
theorem d_La_law_850 : decode code 850 = .ok (.ldc2_w 13, 3) := by decide +kernel
theorem d_La_law_853 : decode code 853 = .ok (.land, 1) := by decide +kernel
theorem d_La_law_854 : decode code 854 = .ok (.lor, 1) := by decide +kernel
theorem d_La_law_855 : decode code 855 = .ok (.invokevirtual 101, 3) := by decide +kernel
theorem d_La_law_858 : decode code 858 = .ok (.aload_n 2, 1) := by decide +kernel
theorem d_La_law_859 : decode code 859 = .ok (.aload_n 0, 1) := by decide +kernel
theorem d_La_law_860 : decode code 860 = .ok (.iload_n 3, 1) := by decide +kernel
theorem d_La_law_861 : decode code 861 = .ok (.iconst 1, 1) := by decide +kernel
theorem d_La_law_862 : decode code 862 = .ok (.iadd, 1) := by decide +kernel
theorem d_La_law_863 : decode code 863 = .ok (.iaload, 1) := by decide +kernel
theorem d_La_law_864 : decode code 864 = .ok (.aload_n 0, 1) := by decide +kernel
theorem d_La_law_865 : decode code 865 = .ok (.iload_n 3, 1) := by decide +kernel
theorem d_La_law_866 : decode code 866 = .ok (.iconst 2, 1) := by decide +kernel
theorem d_La_law_867 : decode code 867 = .ok (.iadd, 1) := by decide +kernel
theorem d_La_law_868 : decode code 868 = .ok (.iaload, 1) := by decide +kernel
theorem d_La_law_869 : decode code 869 = .ok (.aload_n 0, 1) := by decide +kernel
theorem d_La_law_870 : decode code 870 = .ok (.iload_n 3, 1) := by decide +kernel
theorem d_La_law_871 : decode code 871 = .ok (.iconst 3, 1) := by decide +kernel
theorem d_La_law_872 : decode code 872 = .ok (.iadd, 1) := by decide +kernel
theorem d_La_law_873 : decode code 873 = .ok (.iaload, 1) := by decide +kernel
theorem d_La_law_874 : decode code 874 = .ok (.i2l, 1) := by decide +kernel
theorem d_La_law_875 : decode code 875 = .ok (.bipush 32, 2) := by decide +kernel
theorem d_La_law_877 : decode code 877 = .ok (.lshl, 1) := by decide +kernel
theorem d_La_law_878 : decode code 878 = .ok (.aload_n 0, 1) := by decide +kernel
theorem d_La_law_879 : decode code 879 = .ok (.iload_n 3, 1) := by decide +kernel
theorem d_La_law_880 : decode code 880 = .ok (.iconst 4, 1) := by decide +kernel
theorem d_La_law_881 : decode code 881 = .ok (.iadd, 1) := by decide +kernel
theorem d_La_law_882 : decode code 882 = .ok (.iaload, 1) := by decide +kernel
theorem d_La_law_883 : decode code 883 = .ok (.i2l, 1) := by decide +kernel
theorem d_La_law_884 : decode code 884 = .ok (.ldc2_w 13, 3) := by decide +kernel
theorem d_La_law_887 : decode code 887 = .ok (.land, 1) := by decide +kernel
theorem d_La_law_888 : decode code 888 = .ok (.lor, 1) := by decide +kernel
theorem d_La_law_889 : decode code 889 = .ok (.invokevirtual 104, 3) := by decide +kernel
theorem d_La_law_892 : decode code 892 = .ok (.if_icmp .eq 5, 3) := by decide +kernel
theorem d_La_law_895 : decode code 895 = .ok (.iconst 0, 1) := by decide +kernel
theorem d_La_law_896 : decode code 896 = .ok (.ireturn, 1) := by decide +kernel
theorem d_La_law_897 : decode code 897 = .ok (.iinc 3 6, 3) := by decide +kernel
theorem d_La_law_900 : decode code 900 = .ok (.goto (-882), 3) := by decide +kernel
theorem d_La_law_903 : decode code 903 = .ok (.iconst 1, 1) := by decide +kernel
theorem d_La_law_904 : decode code 904 = .ok (.ireturn, 1) := by decide +kernel
theorem d_Ma_min_0 : decode prog_13_method_69_code 0 = .ok (.iload_n 0, 1) := by decide +kernel
theorem d_Ma_min_1 : decode prog_13_method_69_code 1 = .ok (.iload_n 1, 1) := by decide +kernel
theorem d_Ma_min_2 : decode prog_13_method_69_code 2 = .ok (.if_icmp .gt 7, 3) := by decide +kernel
theorem d_Ma_min_5 : decode prog_13_method_69_code 5 = .ok (.iload_n 0, 1) := by decide +kernel
theorem d_Ma_min_6 : decode prog_13_method_69_code 6 = .ok (.goto 4, 3) := by decide +kernel
theorem d_Ma_min_9 : decode prog_13_method_69_code 9 = .ok (.iload_n 1, 1) := by decide +kernel
theorem d_Ma_min_10 : decode prog_13_method_69_code 10 = .ok (.ireturn, 1) := by decide +kernel
theorem d_Ma_abs_0 : decode prog_13_method_59_code 0 = .ok (.iload_n 0, 1) := by decide +kernel
theorem d_Ma_abs_1 : decode prog_13_method_59_code 1 = .ok (.ifCond .ge 8, 3) := by decide +kernel
theorem d_Ma_abs_4 : decode prog_13_method_59_code 4 = .ok (.iload_n 0, 1) := by decide +kernel
theorem d_Ma_abs_5 : decode prog_13_method_59_code 5 = .ok (.ineg, 1) := by decide +kernel
theorem d_Ma_abs_6 : decode prog_13_method_59_code 6 = .ok (.goto 4, 3) := by decide +kernel
theorem d_Ma_abs_9 : decode prog_13_method_59_code 9 = .ok (.iload_n 0, 1) := by decide +kernel
theorem d_Ma_abs_10 : decode prog_13_method_59_code 10 = .ok (.ireturn, 1) := by decide +kernel

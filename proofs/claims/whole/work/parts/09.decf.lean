theorem d_Mo_readSizeOf_60 : decode prog_11_method_31_code 60 = .ok (.i2l, 1) := by decide +kernel
theorem d_Mo_readSizeOf_61 : decode prog_11_method_31_code 61 = .ok (.putfield 124, 3) := by decide +kernel
theorem d_Mo_readSizeOf_64 : decode prog_11_method_31_code 64 = .ok (.iload_n 3, 1) := by decide +kernel
theorem d_Mo_readSizeOf_65 : decode prog_11_method_31_code 65 = .ok (.ifCond .eq 7, 3) := by decide +kernel
theorem d_Mo_readSizeOf_68 : decode prog_11_method_31_code 68 = .ok (.iconst 0, 1) := by decide +kernel
theorem d_Mo_readSizeOf_69 : decode prog_11_method_31_code 69 = .ok (.goto 5, 3) := by decide +kernel
theorem d_Mo_readSizeOf_72 : decode prog_11_method_31_code 72 = .ok (.bipush (-5), 2) := by decide +kernel
theorem d_Mo_readSizeOf_74 : decode prog_11_method_31_code 74 = .ok (.ireturn, 1) := by decide +kernel
theorem d_Mo_readSizeOf_75 : decode prog_11_method_31_code 75 = .ok (.aload_n 0, 1) := by decide +kernel
theorem d_Mo_readSizeOf_76 : decode prog_11_method_31_code 76 = .ok (.getfield 124, 3) := by decide +kernel
theorem d_Mo_readSizeOf_79 : decode prog_11_method_31_code 79 = .ok (.aload_n 0, 1) := by decide +kernel
theorem d_Mo_readSizeOf_80 : decode prog_11_method_31_code 80 = .ok (.getfield 67, 3) := by decide +kernel
theorem d_Mo_readSizeOf_83 : decode prog_11_method_31_code 83 = .ok (.aload_n 0, 1) := by decide +kernel
theorem d_Mo_readSizeOf_84 : decode prog_11_method_31_code 84 = .ok (.getfield 132, 3) := by decide +kernel
theorem d_Mo_readSizeOf_87 : decode prog_11_method_31_code 87 = .ok (.iaload, 1) := by decide +kernel
theorem d_Mo_readSizeOf_88 : decode prog_11_method_31_code 88 = .ok (.aload_n 0, 1) := by decide +kernel
theorem d_Mo_readSizeOf_89 : decode prog_11_method_31_code 89 = .ok (.getfield 115, 3) := by decide +kernel
theorem d_Mo_readSizeOf_92 : decode prog_11_method_31_code 92 = .ok (.isub, 1) := by decide +kernel
theorem d_Mo_readSizeOf_93 : decode prog_11_method_31_code 93 = .ok (.i2l, 1) := by decide +kernel
theorem d_Mo_readSizeOf_94 : decode prog_11_method_31_code 94 = .ok (.lcmp, 1) := by decide +kernel
theorem d_Mo_readSizeOf_95 : decode prog_11_method_31_code 95 = .ok (.ifCond .le 8, 3) := by decide +kernel
theorem d_Mo_readSizeOf_98 : decode prog_11_method_31_code 98 = .ok (.bipush (-2), 2) := by decide +kernel
theorem d_Mo_readSizeOf_100 : decode prog_11_method_31_code 100 = .ok (.goto 4, 3) := by decide +kernel
theorem d_Mo_readSizeOf_103 : decode prog_11_method_31_code 103 = .ok (.iconst 0, 1) := by decide +kernel
theorem d_Mo_readSizeOf_104 : decode prog_11_method_31_code 104 = .ok (.ireturn, 1) := by decide +kernel
theorem d_Mo_readElement_0 : decode prog_11_method_32_code 0 = .ok (.aload_n 0, 1) := by decide +kernel
theorem d_Mo_readElement_1 : decode prog_11_method_32_code 1 = .ok (.aload_n 0, 1) := by decide +kernel
theorem d_Mo_readElement_2 : decode prog_11_method_32_code 2 = .ok (.getfield 67, 3) := by decide +kernel
theorem d_Mo_readElement_5 : decode prog_11_method_32_code 5 = .ok (.aload_n 0, 1) := by decide +kernel
theorem d_Mo_readElement_6 : decode prog_11_method_32_code 6 = .ok (.getfield 132, 3) := by decide +kernel
theorem d_Mo_readElement_9 : decode prog_11_method_32_code 9 = .ok (.iaload, 1) := by decide +kernel
theorem d_Mo_readElement_10 : decode prog_11_method_32_code 10 = .ok (.invokevirtual 171, 3) := by decide +kernel
theorem d_Mo_readElement_13 : decode prog_11_method_32_code 13 = .ok (.istore_n 1, 1) := by decide +kernel
theorem d_Mo_readElement_14 : decode prog_11_method_32_code 14 = .ok (.iload_n 1, 1) := by decide +kernel
theorem d_Mo_readElement_15 : decode prog_11_method_32_code 15 = .ok (.ifCond .ge 5, 3) := by decide +kernel
theorem d_Mo_readElement_18 : decode prog_11_method_32_code 18 = .ok (.iload_n 1, 1) := by decide +kernel
theorem d_Mo_readElement_19 : decode prog_11_method_32_code 19 = .ok (.ireturn, 1) := by decide +kernel
theorem d_Mo_readElement_20 : decode prog_11_method_32_code 20 = .ok (.aload_n 0, 1) := by decide +kernel
theorem d_Mo_readElement_21 : decode prog_11_method_32_code 21 = .ok (.getfield 70, 3) := by decide +kernel
theorem d_Mo_readElement_24 : decode prog_11_method_32_code 24 = .ok (.aload_n 0, 1) := by decide +kernel
theorem d_Mo_readElement_25 : decode prog_11_method_32_code 25 = .ok (.getfield 132, 3) := by decide +kernel
theorem d_Mo_readElement_28 : decode prog_11_method_32_code 28 = .ok (.baload, 1) := by decide +kernel
theorem d_Mo_readElement_29 : decode prog_11_method_32_code 29 = .ok (.ifCond .eq 27, 3) := by decide +kernel
theorem d_Mo_readElement_32 : decode prog_11_method_32_code 32 = .ok (.iload_n 1, 1) := by decide +kernel
theorem d_Mo_readElement_33 : decode prog_11_method_32_code 33 = .ok (.aload_n 0, 1) := by decide +kernel
theorem d_Mo_readElement_34 : decode prog_11_method_32_code 34 = .ok (.invokevirtual 174, 3) := by decide +kernel
theorem d_Mo_readElement_37 : decode prog_11_method_32_code 37 = .ok (.invokestatic 178, 3) := by decide +kernel
theorem d_Mo_readElement_40 : decode prog_11_method_32_code 40 = .ok (.ifCond .ne 16, 3) := by decide +kernel
theorem d_Mo_readElement_43 : decode prog_11_method_32_code 43 = .ok (.aload_n 0, 1) := by decide +kernel
theorem d_Mo_readElement_44 : decode prog_11_method_32_code 44 = .ok (.dup, 1) := by decide +kernel
theorem d_Mo_readElement_45 : decode prog_11_method_32_code 45 = .ok (.getfield 132, 3) := by decide +kernel
theorem d_Mo_readElement_48 : decode prog_11_method_32_code 48 = .ok (.iconst 1, 1) := by decide +kernel
theorem d_Mo_readElement_49 : decode prog_11_method_32_code 49 = .ok (.isub, 1) := by decide +kernel
theorem d_Mo_readElement_50 : decode prog_11_method_32_code 50 = .ok (.putfield 132, 3) := by decide +kernel
theorem d_Mo_readElement_53 : decode prog_11_method_32_code 53 = .ok (.goto (-33), 3) := by decide +kernel
theorem d_Mo_readElement_56 : decode prog_11_method_32_code 56 = .ok (.iload_n 1, 1) := by decide +kernel
theorem d_Mo_readElement_57 : decode prog_11_method_32_code 57 = .ok (.aload_n 0, 1) := by decide +kernel
theorem d_Mo_readElement_58 : decode prog_11_method_32_code 58 = .ok (.invokevirtual 174, 3) := by decide +kernel
theorem d_Mo_readElement_61 : decode prog_11_method_32_code 61 = .ok (.invokestatic 178, 3) := by decide +kernel
theorem d_Mo_readElement_64 : decode prog_11_method_32_code 64 = .ok (.ifCond .eq 26, 3) := by decide +kernel
theorem d_Mo_readElement_67 : decode prog_11_method_32_code 67 = .ok (.iload_n 1, 1) := by decide +kernel
theorem d_Mo_readElement_68 : decode prog_11_method_32_code 68 = .ok (.sipush 191, 3) := by decide +kernel
theorem d_Mo_readElement_71 : decode prog_11_method_32_code 71 = .ok (.if_icmp .ne 22, 3) := by decide +kernel
theorem d_Mo_readElement_74 : decode prog_11_method_32_code 74 = .ok (.aload_n 0, 1) := by decide +kernel
theorem d_Mo_readElement_75 : decode prog_11_method_32_code 75 = .ok (.aload_n 0, 1) := by decide +kernel
theorem d_Mo_readElement_76 : decode prog_11_method_32_code 76 = .ok (.getfield 64, 3) := by decide +kernel
theorem d_Mo_readElement_79 : decode prog_11_method_32_code 79 = .ok (.aload_n 0, 1) := by decide +kernel
theorem d_Mo_readElement_80 : decode prog_11_method_32_code 80 = .ok (.getfield 132, 3) := by decide +kernel
theorem d_Mo_readElement_83 : decode prog_11_method_32_code 83 = .ok (.iaload, 1) := by decide +kernel
theorem d_Mo_readElement_84 : decode prog_11_method_32_code 84 = .ok (.invokevirtual 181, 3) := by decide +kernel
theorem d_Mo_readElement_87 : decode prog_11_method_32_code 87 = .ok (.ifCond .le 6, 3) := by decide +kernel
theorem d_Mo_readElement_90 : decode prog_11_method_32_code 90 = .ok (.bipush (-4), 2) := by decide +kernel
theorem d_Mo_readElement_92 : decode prog_11_method_32_code 92 = .ok (.ireturn, 1) := by decide +kernel
theorem d_Mo_readElement_93 : decode prog_11_method_32_code 93 = .ok (.aload_n 0, 1) := by decide +kernel
theorem d_Mo_readElement_94 : decode prog_11_method_32_code 94 = .ok (.iload_n 1, 1) := by decide +kernel
theorem d_Mo_readElement_95 : decode prog_11_method_32_code 95 = .ok (.invokevirtual 184, 3) := by decide +kernel
theorem d_Mo_readElement_98 : decode prog_11_method_32_code 98 = .ok (.istore_n 2, 1) := by decide +kernel
theorem d_Mo_readElement_99 : decode prog_11_method_32_code 99 = .ok (.iload_n 2, 1) := by decide +kernel
theorem d_Mo_readElement_100 : decode prog_11_method_32_code 100 = .ok (.ifCond .eq 5, 3) := by decide +kernel
theorem d_Mo_readElement_103 : decode prog_11_method_32_code 103 = .ok (.iload_n 2, 1) := by decide +kernel
theorem d_Mo_readElement_104 : decode prog_11_method_32_code 104 = .ok (.ireturn, 1) := by decide +kernel
theorem d_Mo_readElement_105 : decode prog_11_method_32_code 105 = .ok (.aload_n 0, 1) := by decide +kernel
theorem d_Mo_readElement_106 : decode prog_11_method_32_code 106 = .ok (.getfield 86, 3) := by decide +kernel
theorem d_Mo_readElement_109 : decode prog_11_method_32_code 109 = .ok (.bipush 60, 2) := by decide +kernel
theorem d_Mo_readElement_111 : decode prog_11_method_32_code 111 = .ok (.if_icmp .ne 6, 3) := by decide +kernel
theorem d_Mo_readElement_114 : decode prog_11_method_32_code 114 = .ok (.bipush (-6), 2) := by decide +kernel
theorem d_Mo_readElement_116 : decode prog_11_method_32_code 116 = .ok (.ireturn, 1) := by decide +kernel
theorem d_Mo_readElement_117 : decode prog_11_method_32_code 117 = .ok (.aload_n 0, 1) := by decide +kernel
theorem d_Mo_readElement_118 : decode prog_11_method_32_code 118 = .ok (.getfield 128, 3) := by decide +kernel
theorem d_Mo_readElement_121 : decode prog_11_method_32_code 121 = .ok (.istore_n 3, 1) := by decide +kernel
theorem d_Mo_readElement_122 : decode prog_11_method_32_code 122 = .ok (.aload_n 0, 1) := by decide +kernel
theorem d_Mo_readElement_123 : decode prog_11_method_32_code 123 = .ok (.getfield 115, 3) := by decide +kernel
theorem d_Mo_readElement_126 : decode prog_11_method_32_code 126 = .ok (.aload_n 0, 1) := by decide +kernel
theorem d_Mo_readElement_127 : decode prog_11_method_32_code 127 = .ok (.getfield 124, 3) := by decide +kernel
theorem d_Mo_readElement_130 : decode prog_11_method_32_code 130 = .ok (.l2i, 1) := by decide +kernel
theorem d_Mo_readElement_131 : decode prog_11_method_32_code 131 = .ok (.iadd, 1) := by decide +kernel
theorem d_Mo_readElement_132 : decode prog_11_method_32_code 132 = .ok (.istore 4, 2) := by decide +kernel
theorem d_Mo_readElement_134 : decode prog_11_method_32_code 134 = .ok (.aload_n 0, 1) := by decide +kernel
theorem d_Mo_readElement_135 : decode prog_11_method_32_code 135 = .ok (.getfield 7, 3) := by decide +kernel
theorem d_Mo_readElement_138 : decode prog_11_method_32_code 138 = .ok (.aload_n 0, 1) := by decide +kernel
theorem d_Mo_readElement_139 : decode prog_11_method_32_code 139 = .ok (.getfield 86, 3) := by decide +kernel
theorem d_Mo_readElement_142 : decode prog_11_method_32_code 142 = .ok (.iload_n 1, 1) := by decide +kernel
theorem d_Mo_readElement_143 : decode prog_11_method_32_code 143 = .ok (.iastore, 1) := by decide +kernel
theorem d_Mo_readElement_144 : decode prog_11_method_32_code 144 = .ok (.aload_n 0, 1) := by decide +kernel
theorem d_Mo_readElement_145 : decode prog_11_method_32_code 145 = .ok (.getfield 13, 3) := by decide +kernel
theorem d_Mo_readElement_148 : decode prog_11_method_32_code 148 = .ok (.aload_n 0, 1) := by decide +kernel
theorem d_Mo_readElement_149 : decode prog_11_method_32_code 149 = .ok (.getfield 86, 3) := by decide +kernel
theorem d_Mo_readElement_152 : decode prog_11_method_32_code 152 = .ok (.aload_n 0, 1) := by decide +kernel
theorem d_Mo_readElement_153 : decode prog_11_method_32_code 153 = .ok (.getfield 64, 3) := by decide +kernel
theorem d_Mo_readElement_156 : decode prog_11_method_32_code 156 = .ok (.aload_n 0, 1) := by decide +kernel
theorem d_Mo_readElement_157 : decode prog_11_method_32_code 157 = .ok (.getfield 132, 3) := by decide +kernel
theorem d_Mo_readElement_160 : decode prog_11_method_32_code 160 = .ok (.iaload, 1) := by decide +kernel
theorem d_Mo_readElement_161 : decode prog_11_method_32_code 161 = .ok (.iastore, 1) := by decide +kernel
theorem d_Mo_readElement_162 : decode prog_11_method_32_code 162 = .ok (.aload_n 0, 1) := by decide +kernel
theorem d_Mo_readElement_163 : decode prog_11_method_32_code 163 = .ok (.getfield 16, 3) := by decide +kernel
theorem d_Mo_readElement_166 : decode prog_11_method_32_code 166 = .ok (.aload_n 0, 1) := by decide +kernel
theorem d_Mo_readElement_167 : decode prog_11_method_32_code 167 = .ok (.getfield 86, 3) := by decide +kernel
theorem d_Mo_readElement_170 : decode prog_11_method_32_code 170 = .ok (.lconst 0, 1) := by decide +kernel
theorem d_Mo_readElement_171 : decode prog_11_method_32_code 171 = .ok (.lastore, 1) := by decide +kernel
theorem d_Mo_readElement_172 : decode prog_11_method_32_code 172 = .ok (.aload_n 0, 1) := by decide +kernel
theorem d_Mo_readElement_173 : decode prog_11_method_32_code 173 = .ok (.getfield 20, 3) := by decide +kernel
theorem d_Mo_readElement_176 : decode prog_11_method_32_code 176 = .ok (.aload_n 0, 1) := by decide +kernel
theorem d_Mo_readElement_177 : decode prog_11_method_32_code 177 = .ok (.getfield 86, 3) := by decide +kernel
theorem d_Mo_readElement_180 : decode prog_11_method_32_code 180 = .ok (.iconst 0, 1) := by decide +kernel
theorem d_Mo_readElement_181 : decode prog_11_method_32_code 181 = .ok (.iastore, 1) := by decide +kernel
theorem d_Mo_readElement_182 : decode prog_11_method_32_code 182 = .ok (.iload_n 1, 1) := by decide +kernel
theorem d_Mo_readElement_183 : decode prog_11_method_32_code 183 = .ok (.invokestatic 82, 3) := by decide +kernel
theorem d_Mo_readElement_186 : decode prog_11_method_32_code 186 = .ok (.ifCond .ne 50, 3) := by decide +kernel
theorem d_Mo_readElement_189 : decode prog_11_method_32_code 189 = .ok (.aload_n 0, 1) := by decide +kernel
theorem d_Mo_readElement_190 : decode prog_11_method_32_code 190 = .ok (.dup, 1) := by decide +kernel
theorem d_Mo_readElement_191 : decode prog_11_method_32_code 191 = .ok (.getfield 132, 3) := by decide +kernel
theorem d_Mo_readElement_194 : decode prog_11_method_32_code 194 = .ok (.iconst 1, 1) := by decide +kernel
theorem d_Mo_readElement_195 : decode prog_11_method_32_code 195 = .ok (.iadd, 1) := by decide +kernel
theorem d_Mo_readElement_196 : decode prog_11_method_32_code 196 = .ok (.putfield 132, 3) := by decide +kernel
theorem d_Mo_readElement_199 : decode prog_11_method_32_code 199 = .ok (.aload_n 0, 1) := by decide +kernel
theorem d_Mo_readElement_200 : decode prog_11_method_32_code 200 = .ok (.getfield 64, 3) := by decide +kernel
theorem d_Mo_readElement_203 : decode prog_11_method_32_code 203 = .ok (.aload_n 0, 1) := by decide +kernel
theorem d_Mo_readElement_204 : decode prog_11_method_32_code 204 = .ok (.getfield 132, 3) := by decide +kernel
theorem d_Mo_readElement_207 : decode prog_11_method_32_code 207 = .ok (.aload_n 0, 1) := by decide +kernel
theorem d_Mo_readElement_208 : decode prog_11_method_32_code 208 = .ok (.getfield 86, 3) := by decide +kernel
theorem d_Mo_readElement_211 : decode prog_11_method_32_code 211 = .ok (.iastore, 1) := by decide +kernel
theorem d_Mo_readElement_212 : decode prog_11_method_32_code 212 = .ok (.aload_n 0, 1) := by decide +kernel
theorem d_Mo_readElement_213 : decode prog_11_method_32_code 213 = .ok (.getfield 67, 3) := by decide +kernel
theorem d_Mo_readElement_216 : decode prog_11_method_32_code 216 = .ok (.aload_n 0, 1) := by decide +kernel
theorem d_Mo_readElement_217 : decode prog_11_method_32_code 217 = .ok (.getfield 132, 3) := by decide +kernel
theorem d_Mo_readElement_220 : decode prog_11_method_32_code 220 = .ok (.iload 4, 2) := by decide +kernel
theorem d_Mo_readElement_222 : decode prog_11_method_32_code 222 = .ok (.iastore, 1) := by decide +kernel
theorem d_Mo_readElement_223 : decode prog_11_method_32_code 223 = .ok (.aload_n 0, 1) := by decide +kernel
theorem d_Mo_readElement_224 : decode prog_11_method_32_code 224 = .ok (.getfield 70, 3) := by decide +kernel
theorem d_Mo_readElement_227 : decode prog_11_method_32_code 227 = .ok (.aload_n 0, 1) := by decide +kernel
theorem d_Mo_readElement_228 : decode prog_11_method_32_code 228 = .ok (.getfield 132, 3) := by decide +kernel
theorem d_Mo_readElement_231 : decode prog_11_method_32_code 231 = .ok (.iload_n 3, 1) := by decide +kernel
theorem d_Mo_readElement_232 : decode prog_11_method_32_code 232 = .ok (.bastore, 1) := by decide +kernel
theorem d_Mo_readElement_233 : decode prog_11_method_32_code 233 = .ok (.goto 25, 3) := by decide +kernel
theorem d_Mo_readElement_236 : decode prog_11_method_32_code 236 = .ok (.aload_n 0, 1) := by decide +kernel
theorem d_Mo_readElement_237 : decode prog_11_method_32_code 237 = .ok (.iload_n 1, 1) := by decide +kernel
theorem d_Mo_readElement_238 : decode prog_11_method_32_code 238 = .ok (.invokestatic 82, 3) := by decide +kernel
theorem d_Mo_readElement_241 : decode prog_11_method_32_code 241 = .ok (.iload 4, 2) := by decide +kernel
theorem d_Mo_readElement_243 : decode prog_11_method_32_code 243 = .ok (.invokevirtual 187, 3) := by decide +kernel
theorem d_Mo_readElement_246 : decode prog_11_method_32_code 246 = .ok (.ifCond .ne 6, 3) := by decide +kernel
theorem d_Mo_readElement_249 : decode prog_11_method_32_code 249 = .ok (.bipush (-7), 2) := by decide +kernel
theorem d_Mo_readElement_251 : decode prog_11_method_32_code 251 = .ok (.ireturn, 1) := by decide +kernel
theorem d_Mo_readElement_252 : decode prog_11_method_32_code 252 = .ok (.aload_n 0, 1) := by decide +kernel
theorem d_Mo_readElement_253 : decode prog_11_method_32_code 253 = .ok (.iload 4, 2) := by decide +kernel
theorem d_Mo_readElement_255 : decode prog_11_method_32_code 255 = .ok (.putfield 115, 3) := by decide +kernel
theorem d_Mo_readElement_258 : decode prog_11_method_32_code 258 = .ok (.aload_n 0, 1) := by decide +kernel
theorem d_Mo_readElement_259 : decode prog_11_method_32_code 259 = .ok (.dup, 1) := by decide +kernel
theorem d_Mo_readElement_260 : decode prog_11_method_32_code 260 = .ok (.getfield 86, 3) := by decide +kernel
theorem d_Mo_readElement_263 : decode prog_11_method_32_code 263 = .ok (.iconst 1, 1) := by decide +kernel
theorem d_Mo_readElement_264 : decode prog_11_method_32_code 264 = .ok (.iadd, 1) := by decide +kernel
theorem d_Mo_readElement_265 : decode prog_11_method_32_code 265 = .ok (.putfield 86, 3) := by decide +kernel
theorem d_Mo_readElement_268 : decode prog_11_method_32_code 268 = .ok (.iconst 0, 1) := by decide +kernel
theorem d_Mo_readElement_269 : decode prog_11_method_32_code 269 = .ok (.ireturn, 1) := by decide +kernel
theorem d_Mo_read_0 : decode prog_11_method_33_code 0 = .ok (.aload_n 0, 1) := by decide +kernel
theorem d_Mo_read_1 : decode prog_11_method_33_code 1 = .ok (.iconst 0, 1) := by decide +kernel
theorem d_Mo_read_2 : decode prog_11_method_33_code 2 = .ok (.putfield 86, 3) := by decide +kernel
theorem d_Mo_read_5 : decode prog_11_method_33_code 5 = .ok (.aload_n 0, 1) := by decide +kernel
theorem d_Mo_read_6 : decode prog_11_method_33_code 6 = .ok (.iconst 0, 1) := by decide +kernel
theorem d_Mo_read_7 : decode prog_11_method_33_code 7 = .ok (.putfield 104, 3) := by decide +kernel
theorem d_Mo_read_10 : decode prog_11_method_33_code 10 = .ok (.aload_n 0, 1) := by decide +kernel
theorem d_Mo_read_11 : decode prog_11_method_33_code 11 = .ok (.iconst 0, 1) := by decide +kernel
theorem d_Mo_read_12 : decode prog_11_method_33_code 12 = .ok (.putfield 115, 3) := by decide +kernel
theorem d_Mo_read_15 : decode prog_11_method_33_code 15 = .ok (.aload_n 0, 1) := by decide +kernel
theorem d_Mo_read_16 : decode prog_11_method_33_code 16 = .ok (.iconst 0, 1) := by decide +kernel
theorem d_Mo_read_17 : decode prog_11_method_33_code 17 = .ok (.putfield 132, 3) := by decide +kernel
theorem d_Mo_read_20 : decode prog_11_method_33_code 20 = .ok (.aload_n 0, 1) := by decide +kernel
theorem d_Mo_read_21 : decode prog_11_method_33_code 21 = .ok (.iconst (-1), 1) := by decide +kernel
theorem d_Mo_read_22 : decode prog_11_method_33_code 22 = .ok (.putfield 60, 3) := by decide +kernel
theorem d_Mo_read_25 : decode prog_11_method_33_code 25 = .ok (.aload_n 0, 1) := by decide +kernel
theorem d_Mo_read_26 : decode prog_11_method_33_code 26 = .ok (.getfield 64, 3) := by decide +kernel
theorem d_Mo_read_29 : decode prog_11_method_33_code 29 = .ok (.iconst 0, 1) := by decide +kernel
theorem d_Mo_read_30 : decode prog_11_method_33_code 30 = .ok (.iconst (-1), 1) := by decide +kernel
theorem d_Mo_read_31 : decode prog_11_method_33_code 31 = .ok (.iastore, 1) := by decide +kernel
theorem d_Mo_read_32 : decode prog_11_method_33_code 32 = .ok (.aload_n 0, 1) := by decide +kernel
theorem d_Mo_read_33 : decode prog_11_method_33_code 33 = .ok (.getfield 67, 3) := by decide +kernel
theorem d_Mo_read_36 : decode prog_11_method_33_code 36 = .ok (.iconst 0, 1) := by decide +kernel
theorem d_Mo_read_37 : decode prog_11_method_33_code 37 = .ok (.aload_n 0, 1) := by decide +kernel
theorem d_Mo_read_38 : decode prog_11_method_33_code 38 = .ok (.getfield 107, 3) := by decide +kernel
theorem d_Mo_read_41 : decode prog_11_method_33_code 41 = .ok (.iastore, 1) := by decide +kernel
theorem d_Mo_read_42 : decode prog_11_method_33_code 42 = .ok (.aload_n 0, 1) := by decide +kernel
theorem d_Mo_read_43 : decode prog_11_method_33_code 43 = .ok (.getfield 70, 3) := by decide +kernel
theorem d_Mo_read_46 : decode prog_11_method_33_code 46 = .ok (.iconst 0, 1) := by decide +kernel
theorem d_Mo_read_47 : decode prog_11_method_33_code 47 = .ok (.iconst 0, 1) := by decide +kernel
theorem d_Mo_read_48 : decode prog_11_method_33_code 48 = .ok (.bastore, 1) := by decide +kernel
theorem d_Mo_read_49 : decode prog_11_method_33_code 49 = .ok (.aload_n 0, 1) := by decide +kernel
theorem d_Mo_read_50 : decode prog_11_method_33_code 50 = .ok (.getfield 132, 3) := by decide +kernel
theorem d_Mo_read_53 : decode prog_11_method_33_code 53 = .ok (.ifCond .gt 14, 3) := by decide +kernel
theorem d_Mo_read_56 : decode prog_11_method_33_code 56 = .ok (.aload_n 0, 1) := by decide +kernel
theorem d_Mo_read_57 : decode prog_11_method_33_code 57 = .ok (.getfield 115, 3) := by decide +kernel
theorem d_Mo_read_60 : decode prog_11_method_33_code 60 = .ok (.aload_n 0, 1) := by decide +kernel
theorem d_Mo_read_61 : decode prog_11_method_33_code 61 = .ok (.getfield 107, 3) := by decide +kernel
theorem d_Mo_read_64 : decode prog_11_method_33_code 64 = .ok (.if_icmp .ge 61, 3) := by decide +kernel
theorem d_Mo_read_67 : decode prog_11_method_33_code 67 = .ok (.aload_n 0, 1) := by decide +kernel
theorem d_Mo_read_68 : decode prog_11_method_33_code 68 = .ok (.getfield 115, 3) := by decide +kernel
theorem d_Mo_read_71 : decode prog_11_method_33_code 71 = .ok (.aload_n 0, 1) := by decide +kernel
theorem d_Mo_read_72 : decode prog_11_method_33_code 72 = .ok (.getfield 67, 3) := by decide +kernel
theorem d_Mo_read_75 : decode prog_11_method_33_code 75 = .ok (.aload_n 0, 1) := by decide +kernel
theorem d_Mo_read_76 : decode prog_11_method_33_code 76 = .ok (.getfield 132, 3) := by decide +kernel
theorem d_Mo_read_79 : decode prog_11_method_33_code 79 = .ok (.iaload, 1) := by decide +kernel
theorem d_Mo_read_80 : decode prog_11_method_33_code 80 = .ok (.if_icmp .ne 16, 3) := by decide +kernel
theorem d_Mo_read_83 : decode prog_11_method_33_code 83 = .ok (.aload_n 0, 1) := by decide +kernel
theorem d_Mo_read_84 : decode prog_11_method_33_code 84 = .ok (.dup, 1) := by decide +kernel
theorem d_Mo_read_85 : decode prog_11_method_33_code 85 = .ok (.getfield 132, 3) := by decide +kernel
theorem d_Mo_read_88 : decode prog_11_method_33_code 88 = .ok (.iconst 1, 1) := by decide +kernel
theorem d_Mo_read_89 : decode prog_11_method_33_code 89 = .ok (.isub, 1) := by decide +kernel
theorem d_Mo_read_90 : decode prog_11_method_33_code 90 = .ok (.putfield 132, 3) := by decide +kernel
theorem d_Mo_read_93 : decode prog_11_method_33_code 93 = .ok (.goto (-44), 3) := by decide +kernel
theorem d_Mo_read_96 : decode prog_11_method_33_code 96 = .ok (.aload_n 0, 1) := by decide +kernel
theorem d_Mo_read_97 : decode prog_11_method_33_code 97 = .ok (.getfield 115, 3) := by decide +kernel
theorem d_Mo_read_100 : decode prog_11_method_33_code 100 = .ok (.istore_n 1, 1) := by decide +kernel
theorem d_Mo_read_101 : decode prog_11_method_33_code 101 = .ok (.aload_n 0, 1) := by decide +kernel
theorem d_Mo_read_102 : decode prog_11_method_33_code 102 = .ok (.invokevirtual 190, 3) := by decide +kernel
theorem d_Mo_read_105 : decode prog_11_method_33_code 105 = .ok (.istore_n 2, 1) := by decide +kernel
theorem d_Mo_read_106 : decode prog_11_method_33_code 106 = .ok (.iload_n 2, 1) := by decide +kernel
theorem d_Mo_read_107 : decode prog_11_method_33_code 107 = .ok (.ifCond .eq 15, 3) := by decide +kernel
theorem d_Mo_read_110 : decode prog_11_method_33_code 110 = .ok (.aload_n 0, 1) := by decide +kernel
theorem d_Mo_read_111 : decode prog_11_method_33_code 111 = .ok (.iconst 0, 1) := by decide +kernel
theorem d_Mo_read_112 : decode prog_11_method_33_code 112 = .ok (.putfield 86, 3) := by decide +kernel
theorem d_Mo_read_115 : decode prog_11_method_33_code 115 = .ok (.aload_n 0, 1) := by decide +kernel
theorem d_Mo_read_116 : decode prog_11_method_33_code 116 = .ok (.iload_n 1, 1) := by decide +kernel
theorem d_Mo_read_117 : decode prog_11_method_33_code 117 = .ok (.putfield 60, 3) := by decide +kernel
theorem d_Mo_read_120 : decode prog_11_method_33_code 120 = .ok (.iload_n 2, 1) := by decide +kernel
theorem d_Mo_read_121 : decode prog_11_method_33_code 121 = .ok (.ireturn, 1) := by decide +kernel
theorem d_Mo_read_122 : decode prog_11_method_33_code 122 = .ok (.goto (-73), 3) := by decide +kernel
theorem d_Mo_read_125 : decode prog_11_method_33_code 125 = .ok (.aload_n 0, 1) := by decide +kernel
theorem d_Mo_read_126 : decode prog_11_method_33_code 126 = .ok (.getfield 86, 3) := by decide +kernel
theorem d_Mo_read_129 : decode prog_11_method_33_code 129 = .ok (.ireturn, 1) := by decide +kernel
theorem d_Mo_where_0 : decode prog_11_method_34_code 0 = .ok (.aload_n 0, 1) := by decide +kernel
theorem d_Mo_where_1 : decode prog_11_method_34_code 1 = .ok (.getfield 60, 3) := by decide +kernel
theorem d_Mo_where_4 : decode prog_11_method_34_code 4 = .ok (.ireturn, 1) := by decide +kernel
theorem d_Mo_make_0 : decode prog_11_method_35_code 0 = .ok (.iload_n 1, 1) := by decide +kernel
theorem d_Mo_make_1 : decode prog_11_method_35_code 1 = .ok (.iconst (-1), 1) := by decide +kernel
theorem d_Mo_make_2 : decode prog_11_method_35_code 2 = .ok (.if_icmp .eq 13, 3) := by decide +kernel
theorem d_Mo_make_5 : decode prog_11_method_35_code 5 = .ok (.aload_n 0, 1) := by decide +kernel
theorem d_Mo_make_6 : decode prog_11_method_35_code 6 = .ok (.iload_n 1, 1) := by decide +kernel
theorem d_Mo_make_7 : decode prog_11_method_35_code 7 = .ok (.invokevirtual 89, 3) := by decide +kernel
theorem d_Mo_make_10 : decode prog_11_method_35_code 10 = .ok (.ifCond .ne 5, 3) := by decide +kernel
theorem d_Mo_make_13 : decode prog_11_method_35_code 13 = .ok (.iconst (-1), 1) := by decide +kernel
theorem d_Mo_make_14 : decode prog_11_method_35_code 14 = .ok (.ireturn, 1) := by decide +kernel
theorem d_Mo_make_15 : decode prog_11_method_35_code 15 = .ok (.iload_n 2, 1) := by decide +kernel
theorem d_Mo_make_16 : decode prog_11_method_35_code 16 = .ok (.invokestatic 82, 3) := by decide +kernel
theorem d_Mo_make_19 : decode prog_11_method_35_code 19 = .ok (.istore 5, 2) := by decide +kernel
theorem d_Mo_make_21 : decode prog_11_method_35_code 21 = .ok (.iload_n 1, 1) := by decide +kernel
theorem d_Mo_make_22 : decode prog_11_method_35_code 22 = .ok (.ifCond .ge 7, 3) := by decide +kernel
theorem d_Mo_make_25 : decode prog_11_method_35_code 25 = .ok (.iconst 0, 1) := by decide +kernel
theorem d_Mo_make_26 : decode prog_11_method_35_code 26 = .ok (.goto 9, 3) := by decide +kernel
theorem d_Mo_make_29 : decode prog_11_method_35_code 29 = .ok (.aload_n 0, 1) := by decide +kernel
theorem d_Mo_make_30 : decode prog_11_method_35_code 30 = .ok (.getfield 7, 3) := by decide +kernel
theorem d_Mo_make_33 : decode prog_11_method_35_code 33 = .ok (.iload_n 1, 1) := by decide +kernel
theorem d_Mo_make_34 : decode prog_11_method_35_code 34 = .ok (.iaload, 1) := by decide +kernel
theorem d_Mo_make_35 : decode prog_11_method_35_code 35 = .ok (.istore 6, 2) := by decide +kernel
theorem d_Mo_make_37 : decode prog_11_method_35_code 37 = .ok (.iload 5, 2) := by decide +kernel
theorem d_Mo_make_39 : decode prog_11_method_35_code 39 = .ok (.iconst 3, 1) := by decide +kernel
theorem d_Mo_make_40 : decode prog_11_method_35_code 40 = .ok (.if_icmp .eq 33, 3) := by decide +kernel
theorem d_Mo_make_43 : decode prog_11_method_35_code 43 = .ok (.iload 5, 2) := by decide +kernel
theorem d_Mo_make_45 : decode prog_11_method_35_code 45 = .ok (.bipush 6, 2) := by decide +kernel
theorem d_Mo_make_47 : decode prog_11_method_35_code 47 = .ok (.if_icmp .eq 26, 3) := by decide +kernel
theorem d_Mo_make_50 : decode prog_11_method_35_code 50 = .ok (.iload_n 2, 1) := by decide +kernel
theorem d_Mo_make_51 : decode prog_11_method_35_code 51 = .ok (.iload 6, 2) := by decide +kernel
theorem d_Mo_make_53 : decode prog_11_method_35_code 53 = .ok (.invokestatic 178, 3) := by decide +kernel
theorem d_Mo_make_56 : decode prog_11_method_35_code 56 = .ok (.ifCond .eq 17, 3) := by decide +kernel
theorem d_Mo_make_59 : decode prog_11_method_35_code 59 = .ok (.iload 5, 2) := by decide +kernel
theorem d_Mo_make_61 : decode prog_11_method_35_code 61 = .ok (.iconst 4, 1) := by decide +kernel
theorem d_Mo_make_62 : decode prog_11_method_35_code 62 = .ok (.if_icmp .ne 14, 3) := by decide +kernel
theorem d_Mo_make_65 : decode prog_11_method_35_code 65 = .ok (.aload_n 0, 1) := by decide +kernel
theorem d_Mo_make_66 : decode prog_11_method_35_code 66 = .ok (.iload_n 1, 1) := by decide +kernel
theorem d_Mo_make_67 : decode prog_11_method_35_code 67 = .ok (.invokevirtual 181, 3) := by decide +kernel
theorem d_Mo_make_70 : decode prog_11_method_35_code 70 = .ok (.ifCond .le 6, 3) := by decide +kernel
theorem d_Mo_make_73 : decode prog_11_method_35_code 73 = .ok (.bipush (-4), 2) := by decide +kernel
theorem d_Mo_make_75 : decode prog_11_method_35_code 75 = .ok (.ireturn, 1) := by decide +kernel
theorem d_Mo_make_76 : decode prog_11_method_35_code 76 = .ok (.iload 5, 2) := by decide +kernel
theorem d_Mo_make_78 : decode prog_11_method_35_code 78 = .ok (.iconst 5, 1) := by decide +kernel
theorem d_Mo_make_79 : decode prog_11_method_35_code 79 = .ok (.if_icmp .ne 20, 3) := by decide +kernel
theorem d_Mo_make_82 : decode prog_11_method_35_code 82 = .ok (.lload_n 3, 1) := by decide +kernel
theorem d_Mo_make_83 : decode prog_11_method_35_code 83 = .ok (.lconst 0, 1) := by decide +kernel
theorem d_Mo_make_84 : decode prog_11_method_35_code 84 = .ok (.lcmp, 1) := by decide +kernel
theorem d_Mo_make_85 : decode prog_11_method_35_code 85 = .ok (.ifCond .lt 11, 3) := by decide +kernel
theorem d_Mo_make_88 : decode prog_11_method_35_code 88 = .ok (.lload_n 3, 1) := by decide +kernel
theorem d_Mo_make_89 : decode prog_11_method_35_code 89 = .ok (.ldc2_w 193, 3) := by decide +kernel
theorem d_Mo_make_92 : decode prog_11_method_35_code 92 = .ok (.lcmp, 1) := by decide +kernel
theorem d_Mo_make_93 : decode prog_11_method_35_code 93 = .ok (.ifCond .le 6, 3) := by decide +kernel
theorem d_Mo_make_96 : decode prog_11_method_35_code 96 = .ok (.bipush (-7), 2) := by decide +kernel
theorem d_Mo_make_98 : decode prog_11_method_35_code 98 = .ok (.ireturn, 1) := by decide +kernel
theorem d_Mo_make_99 : decode prog_11_method_35_code 99 = .ok (.aload_n 0, 1) := by decide +kernel
theorem d_Mo_make_100 : decode prog_11_method_35_code 100 = .ok (.getfield 86, 3) := by decide +kernel
theorem d_Mo_make_103 : decode prog_11_method_35_code 103 = .ok (.bipush 60, 2) := by decide +kernel
theorem d_Mo_make_105 : decode prog_11_method_35_code 105 = .ok (.if_icmp .ne 6, 3) := by decide +kernel
theorem d_Mo_make_108 : decode prog_11_method_35_code 108 = .ok (.bipush (-6), 2) := by decide +kernel
theorem d_Mo_make_110 : decode prog_11_method_35_code 110 = .ok (.ireturn, 1) := by decide +kernel
theorem d_Mo_make_111 : decode prog_11_method_35_code 111 = .ok (.aload_n 0, 1) := by decide +kernel
theorem d_Mo_make_112 : decode prog_11_method_35_code 112 = .ok (.iload_n 1, 1) := by decide +kernel
theorem d_Mo_make_113 : decode prog_11_method_35_code 113 = .ok (.iload_n 2, 1) := by decide +kernel
theorem d_Mo_make_114 : decode prog_11_method_35_code 114 = .ok (.lload_n 3, 1) := by decide +kernel
theorem d_Mo_make_115 : decode prog_11_method_35_code 115 = .ok (.invokevirtual 195, 3) := by decide +kernel
theorem d_Mo_make_118 : decode prog_11_method_35_code 118 = .ok (.istore 7, 2) := by decide +kernel
theorem d_Mo_make_120 : decode prog_11_method_35_code 120 = .ok (.aload_n 0, 1) := by decide +kernel
theorem d_Mo_make_121 : decode prog_11_method_35_code 121 = .ok (.getfield 20, 3) := by decide +kernel
theorem d_Mo_make_124 : decode prog_11_method_35_code 124 = .ok (.iload 7, 2) := by decide +kernel
theorem d_Mo_make_126 : decode prog_11_method_35_code 126 = .ok (.iload 5, 2) := by decide +kernel
theorem d_Mo_make_128 : decode prog_11_method_35_code 128 = .ok (.iconst 5, 1) := by decide +kernel
theorem d_Mo_make_129 : decode prog_11_method_35_code 129 = .ok (.if_icmp .ne 8, 3) := by decide +kernel
theorem d_Mo_make_132 : decode prog_11_method_35_code 132 = .ok (.lload_n 3, 1) := by decide +kernel
theorem d_Mo_make_133 : decode prog_11_method_35_code 133 = .ok (.l2i, 1) := by decide +kernel
theorem d_Mo_make_134 : decode prog_11_method_35_code 134 = .ok (.goto 4, 3) := by decide +kernel
theorem d_Mo_make_137 : decode prog_11_method_35_code 137 = .ok (.iconst 0, 1) := by decide +kernel
theorem d_Mo_make_138 : decode prog_11_method_35_code 138 = .ok (.iastore, 1) := by decide +kernel
theorem d_Mo_make_139 : decode prog_11_method_35_code 139 = .ok (.iload 7, 2) := by decide +kernel
theorem d_Mo_make_141 : decode prog_11_method_35_code 141 = .ok (.ireturn, 1) := by decide +kernel
theorem d_Mo_letter_0 : decode prog_11_method_36_code 0 = .ok (.aload_n 0, 1) := by decide +kernel
theorem d_Mo_letter_1 : decode prog_11_method_36_code 1 = .ok (.iload_n 1, 1) := by decide +kernel
theorem d_Mo_letter_2 : decode prog_11_method_36_code 2 = .ok (.iconst 2, 1) := by decide +kernel
theorem d_Mo_letter_3 : decode prog_11_method_36_code 3 = .ok (.invokevirtual 199, 3) := by decide +kernel
theorem d_Mo_letter_6 : decode prog_11_method_36_code 6 = .ok (.ifCond .eq 15, 3) := by decide +kernel
theorem d_Mo_letter_9 : decode prog_11_method_36_code 9 = .ok (.iload_n 2, 1) := by decide +kernel
theorem d_Mo_letter_10 : decode prog_11_method_36_code 10 = .ok (.bipush 32, 2) := by decide +kernel
theorem d_Mo_letter_12 : decode prog_11_method_36_code 12 = .ok (.if_icmp .lt 9, 3) := by decide +kernel
theorem d_Mo_letter_15 : decode prog_11_method_36_code 15 = .ok (.iload_n 2, 1) := by decide +kernel
theorem d_Mo_letter_16 : decode prog_11_method_36_code 16 = .ok (.bipush 126, 2) := by decide +kernel
theorem d_Mo_letter_18 : decode prog_11_method_36_code 18 = .ok (.if_icmp .le 5, 3) := by decide +kernel
theorem d_Mo_letter_21 : decode prog_11_method_36_code 21 = .ok (.iconst (-1), 1) := by decide +kernel
theorem d_Mo_letter_22 : decode prog_11_method_36_code 22 = .ok (.ireturn, 1) := by decide +kernel
theorem d_Mo_letter_23 : decode prog_11_method_36_code 23 = .ok (.aload_n 0, 1) := by decide +kernel
theorem d_Mo_letter_24 : decode prog_11_method_36_code 24 = .ok (.getfield 20, 3) := by decide +kernel
theorem d_Mo_letter_27 : decode prog_11_method_36_code 27 = .ok (.iload_n 1, 1) := by decide +kernel
theorem d_Mo_letter_28 : decode prog_11_method_36_code 28 = .ok (.iaload, 1) := by decide +kernel
theorem d_Mo_letter_29 : decode prog_11_method_36_code 29 = .ok (.bipush 16, 2) := by decide +kernel
theorem d_Mo_letter_31 : decode prog_11_method_36_code 31 = .ok (.if_icmp .ne 6, 3) := by decide +kernel
theorem d_Mo_letter_34 : decode prog_11_method_36_code 34 = .ok (.bipush (-8), 2) := by decide +kernel
theorem d_Mo_letter_36 : decode prog_11_method_36_code 36 = .ok (.ireturn, 1) := by decide +kernel
theorem d_Mo_letter_37 : decode prog_11_method_36_code 37 = .ok (.aload_n 0, 1) := by decide +kernel
theorem d_Mo_letter_38 : decode prog_11_method_36_code 38 = .ok (.getfield 23, 3) := by decide +kernel
theorem d_Mo_letter_41 : decode prog_11_method_36_code 41 = .ok (.bipush 16, 2) := by decide +kernel
theorem d_Mo_letter_43 : decode prog_11_method_36_code 43 = .ok (.iload_n 1, 1) := by decide +kernel
theorem d_Mo_letter_44 : decode prog_11_method_36_code 44 = .ok (.imul, 1) := by decide +kernel
theorem d_Mo_letter_45 : decode prog_11_method_36_code 45 = .ok (.aload_n 0, 1) := by decide +kernel
theorem d_Mo_letter_46 : decode prog_11_method_36_code 46 = .ok (.getfield 20, 3) := by decide +kernel
theorem d_Mo_letter_49 : decode prog_11_method_36_code 49 = .ok (.iload_n 1, 1) := by decide +kernel
theorem d_Mo_letter_50 : decode prog_11_method_36_code 50 = .ok (.iaload, 1) := by decide +kernel
theorem d_Mo_letter_51 : decode prog_11_method_36_code 51 = .ok (.iadd, 1) := by decide +kernel
theorem d_Mo_letter_52 : decode prog_11_method_36_code 52 = .ok (.iload_n 2, 1) := by decide +kernel
theorem d_Mo_letter_53 : decode prog_11_method_36_code 53 = .ok (.iastore, 1) := by decide +kernel
theorem d_Mo_letter_54 : decode prog_11_method_36_code 54 = .ok (.aload_n 0, 1) := by decide +kernel
theorem d_Mo_letter_55 : decode prog_11_method_36_code 55 = .ok (.getfield 20, 3) := by decide +kernel
theorem d_Mo_letter_58 : decode prog_11_method_36_code 58 = .ok (.iload_n 1, 1) := by decide +kernel
theorem d_Mo_letter_59 : decode prog_11_method_36_code 59 = .ok (.dup2, 1) := by decide +kernel
theorem d_Mo_letter_60 : decode prog_11_method_36_code 60 = .ok (.iaload, 1) := by decide +kernel
theorem d_Mo_letter_61 : decode prog_11_method_36_code 61 = .ok (.iconst 1, 1) := by decide +kernel
theorem d_Mo_letter_62 : decode prog_11_method_36_code 62 = .ok (.iadd, 1) := by decide +kernel
theorem d_Mo_letter_63 : decode prog_11_method_36_code 63 = .ok (.iastore, 1) := by decide +kernel
theorem d_Mo_letter_64 : decode prog_11_method_36_code 64 = .ok (.aload_n 0, 1) := by decide +kernel
theorem d_Mo_letter_65 : decode prog_11_method_36_code 65 = .ok (.getfield 20, 3) := by decide +kernel
theorem d_Mo_letter_68 : decode prog_11_method_36_code 68 = .ok (.iload_n 1, 1) := by decide +kernel
theorem d_Mo_letter_69 : decode prog_11_method_36_code 69 = .ok (.iaload, 1) := by decide +kernel
theorem d_Mo_letter_70 : decode prog_11_method_36_code 70 = .ok (.ireturn, 1) := by decide +kernel
theorem d_Mo_frame_0 : decode prog_11_method_37_code 0 = .ok (.iload_n 1, 1) := by decide +kernel
theorem d_Mo_frame_1 : decode prog_11_method_37_code 1 = .ok (.ifCond .lt 21, 3) := by decide +kernel
theorem d_Mo_frame_4 : decode prog_11_method_37_code 4 = .ok (.iload_n 1, 1) := by decide +kernel
theorem d_Mo_frame_5 : decode prog_11_method_37_code 5 = .ok (.sipush 300, 3) := by decide +kernel
theorem d_Mo_frame_8 : decode prog_11_method_37_code 8 = .ok (.if_icmp .gt 14, 3) := by decide +kernel
theorem d_Mo_frame_11 : decode prog_11_method_37_code 11 = .ok (.iload_n 2, 1) := by decide +kernel
theorem d_Mo_frame_12 : decode prog_11_method_37_code 12 = .ok (.ifCond .lt 10, 3) := by decide +kernel
theorem d_Mo_frame_15 : decode prog_11_method_37_code 15 = .ok (.iload_n 2, 1) := by decide +kernel
theorem d_Mo_frame_16 : decode prog_11_method_37_code 16 = .ok (.sipush 255, 3) := by decide +kernel
theorem d_Mo_frame_19 : decode prog_11_method_37_code 19 = .ok (.if_icmp .le 5, 3) := by decide +kernel
theorem d_Mo_frame_22 : decode prog_11_method_37_code 22 = .ok (.iconst (-1), 1) := by decide +kernel
theorem d_Mo_frame_23 : decode prog_11_method_37_code 23 = .ok (.ireturn, 1) := by decide +kernel
theorem d_Mo_frame_24 : decode prog_11_method_37_code 24 = .ok (.aload_n 0, 1) := by decide +kernel
theorem d_Mo_frame_25 : decode prog_11_method_37_code 25 = .ok (.getfield 202, 3) := by decide +kernel
theorem d_Mo_frame_28 : decode prog_11_method_37_code 28 = .ok (.bipush 8, 2) := by decide +kernel
theorem d_Mo_frame_30 : decode prog_11_method_37_code 30 = .ok (.if_icmp .eq 15, 3) := by decide +kernel
theorem d_Mo_frame_33 : decode prog_11_method_37_code 33 = .ok (.aload_n 0, 1) := by decide +kernel
theorem d_Mo_frame_34 : decode prog_11_method_37_code 34 = .ok (.getfield 205, 3) := by decide +kernel
theorem d_Mo_frame_37 : decode prog_11_method_37_code 37 = .ok (.iload_n 1, 1) := by decide +kernel
theorem d_Mo_frame_38 : decode prog_11_method_37_code 38 = .ok (.iadd, 1) := by decide +kernel
theorem d_Mo_frame_39 : decode prog_11_method_37_code 39 = .ok (.sipush 400, 3) := by decide +kernel
theorem d_Mo_frame_42 : decode prog_11_method_37_code 42 = .ok (.if_icmp .le 6, 3) := by decide +kernel
theorem d_Mo_frame_45 : decode prog_11_method_37_code 45 = .ok (.bipush (-6), 2) := by decide +kernel
theorem d_Mo_frame_47 : decode prog_11_method_37_code 47 = .ok (.ireturn, 1) := by decide +kernel
theorem d_Mo_frame_48 : decode prog_11_method_37_code 48 = .ok (.aload_n 0, 1) := by decide +kernel
theorem d_Mo_frame_49 : decode prog_11_method_37_code 49 = .ok (.getfield 48, 3) := by decide +kernel
theorem d_Mo_frame_52 : decode prog_11_method_37_code 52 = .ok (.aload_n 0, 1) := by decide +kernel
theorem d_Mo_frame_53 : decode prog_11_method_37_code 53 = .ok (.getfield 202, 3) := by decide +kernel
theorem d_Mo_frame_56 : decode prog_11_method_37_code 56 = .ok (.iload_n 1, 1) := by decide +kernel
theorem d_Mo_frame_57 : decode prog_11_method_37_code 57 = .ok (.iastore, 1) := by decide +kernel
theorem d_Mo_frame_58 : decode prog_11_method_37_code 58 = .ok (.aload_n 0, 1) := by decide +kernel
theorem d_Mo_frame_59 : decode prog_11_method_37_code 59 = .ok (.getfield 51, 3) := by decide +kernel
theorem d_Mo_frame_62 : decode prog_11_method_37_code 62 = .ok (.aload_n 0, 1) := by decide +kernel
theorem d_Mo_frame_63 : decode prog_11_method_37_code 63 = .ok (.getfield 202, 3) := by decide +kernel
theorem d_Mo_frame_66 : decode prog_11_method_37_code 66 = .ok (.iload_n 2, 1) := by decide +kernel
theorem d_Mo_frame_67 : decode prog_11_method_37_code 67 = .ok (.iastore, 1) := by decide +kernel
theorem d_Mo_frame_68 : decode prog_11_method_37_code 68 = .ok (.aload_n 0, 1) := by decide +kernel
theorem d_Mo_frame_69 : decode prog_11_method_37_code 69 = .ok (.aload_n 0, 1) := by decide +kernel
theorem d_Mo_frame_70 : decode prog_11_method_37_code 70 = .ok (.getfield 205, 3) := by decide +kernel
theorem d_Mo_frame_73 : decode prog_11_method_37_code 73 = .ok (.iload_n 1, 1) := by decide +kernel
theorem d_Mo_frame_74 : decode prog_11_method_37_code 74 = .ok (.iadd, 1) := by decide +kernel
theorem d_Mo_frame_75 : decode prog_11_method_37_code 75 = .ok (.putfield 205, 3) := by decide +kernel
theorem d_Mo_frame_78 : decode prog_11_method_37_code 78 = .ok (.aload_n 0, 1) := by decide +kernel
theorem d_Mo_frame_79 : decode prog_11_method_37_code 79 = .ok (.dup, 1) := by decide +kernel
theorem d_Mo_frame_80 : decode prog_11_method_37_code 80 = .ok (.getfield 202, 3) := by decide +kernel
theorem d_Mo_frame_83 : decode prog_11_method_37_code 83 = .ok (.iconst 1, 1) := by decide +kernel
theorem d_Mo_frame_84 : decode prog_11_method_37_code 84 = .ok (.iadd, 1) := by decide +kernel
theorem d_Mo_frame_85 : decode prog_11_method_37_code 85 = .ok (.putfield 202, 3) := by decide +kernel
theorem d_Mo_frame_88 : decode prog_11_method_37_code 88 = .ok (.aload_n 0, 1) := by decide +kernel
theorem d_Mo_frame_89 : decode prog_11_method_37_code 89 = .ok (.getfield 202, 3) := by decide +kernel
theorem d_Mo_frame_92 : decode prog_11_method_37_code 92 = .ok (.ireturn, 1) := by decide +kernel
theorem d_Mo_evenHands_0 : decode prog_11_method_38_code 0 = .ok (.iconst 1, 1) := by decide +kernel
theorem d_Mo_evenHands_1 : decode prog_11_method_38_code 1 = .ok (.istore_n 1, 1) := by decide +kernel
theorem d_Mo_evenHands_2 : decode prog_11_method_38_code 2 = .ok (.iload_n 1, 1) := by decide +kernel
theorem d_Mo_evenHands_3 : decode prog_11_method_38_code 3 = .ok (.aload_n 0, 1) := by decide +kernel
theorem d_Mo_evenHands_4 : decode prog_11_method_38_code 4 = .ok (.getfield 202, 3) := by decide +kernel
theorem d_Mo_evenHands_7 : decode prog_11_method_38_code 7 = .ok (.if_icmp .ge 26, 3) := by decide +kernel
theorem d_Mo_evenHands_10 : decode prog_11_method_38_code 10 = .ok (.aload_n 0, 1) := by decide +kernel
theorem d_Mo_evenHands_11 : decode prog_11_method_38_code 11 = .ok (.getfield 48, 3) := by decide +kernel
theorem d_Mo_evenHands_14 : decode prog_11_method_38_code 14 = .ok (.iload_n 1, 1) := by decide +kernel
theorem d_Mo_evenHands_15 : decode prog_11_method_38_code 15 = .ok (.iaload, 1) := by decide +kernel
theorem d_Mo_evenHands_16 : decode prog_11_method_38_code 16 = .ok (.aload_n 0, 1) := by decide +kernel
theorem d_Mo_evenHands_17 : decode prog_11_method_38_code 17 = .ok (.getfield 48, 3) := by decide +kernel
theorem d_Mo_evenHands_20 : decode prog_11_method_38_code 20 = .ok (.iconst 0, 1) := by decide +kernel
theorem d_Mo_evenHands_21 : decode prog_11_method_38_code 21 = .ok (.iaload, 1) := by decide +kernel
theorem d_Mo_evenHands_22 : decode prog_11_method_38_code 22 = .ok (.if_icmp .eq 5, 3) := by decide +kernel
theorem d_Mo_evenHands_25 : decode prog_11_method_38_code 25 = .ok (.iconst 0, 1) := by decide +kernel
theorem d_Mo_evenHands_26 : decode prog_11_method_38_code 26 = .ok (.ireturn, 1) := by decide +kernel
theorem d_Mo_evenHands_27 : decode prog_11_method_38_code 27 = .ok (.iinc 1 1, 3) := by decide +kernel
theorem d_Mo_evenHands_30 : decode prog_11_method_38_code 30 = .ok (.goto (-28), 3) := by decide +kernel
theorem d_Mo_evenHands_33 : decode prog_11_method_38_code 33 = .ok (.iconst 1, 1) := by decide +kernel
theorem d_Mo_evenHands_34 : decode prog_11_method_38_code 34 = .ok (.ireturn, 1) := by decide +kernel
theorem d_Mo_block_0 : decode prog_11_method_39_code 0 = .ok (.aload_n 0, 1) := by decide +kernel
theorem d_Mo_block_1 : decode prog_11_method_39_code 1 = .ok (.iload_n 1, 1) := by decide +kernel
theorem d_Mo_block_2 : decode prog_11_method_39_code 2 = .ok (.ldc 81, 2) := by decide +kernel
theorem d_Mo_block_4 : decode prog_11_method_39_code 4 = .ok (.invokevirtual 208, 3) := by decide +kernel
theorem d_Mo_block_7 : decode prog_11_method_39_code 7 = .ok (.ifCond .ne 5, 3) := by decide +kernel
theorem d_Mo_block_10 : decode prog_11_method_39_code 10 = .ok (.iconst (-1), 1) := by decide +kernel
theorem d_Mo_block_11 : decode prog_11_method_39_code 11 = .ok (.ireturn, 1) := by decide +kernel
theorem d_Mo_block_12 : decode prog_11_method_39_code 12 = .ok (.iload_n 2, 1) := by decide +kernel
theorem d_Mo_block_13 : decode prog_11_method_39_code 13 = .ok (.iconst 1, 1) := by decide +kernel
theorem d_Mo_block_14 : decode prog_11_method_39_code 14 = .ok (.if_icmp .lt 67, 3) := by decide +kernel
theorem d_Mo_block_17 : decode prog_11_method_39_code 17 = .ok (.iload_n 2, 1) := by decide +kernel
theorem d_Mo_block_18 : decode prog_11_method_39_code 18 = .ok (.bipush 126, 2) := by decide +kernel
theorem d_Mo_block_20 : decode prog_11_method_39_code 20 = .ok (.if_icmp .gt 61, 3) := by decide +kernel
theorem d_Mo_block_23 : decode prog_11_method_39_code 23 = .ok (.iload_n 3, 1) := by decide +kernel
theorem d_Mo_block_24 : decode prog_11_method_39_code 24 = .ok (.sipush (-32768), 3) := by decide +kernel
theorem d_Mo_block_27 : decode prog_11_method_39_code 27 = .ok (.if_icmp .lt 54, 3) := by decide +kernel
theorem d_Mo_block_30 : decode prog_11_method_39_code 30 = .ok (.iload_n 3, 1) := by decide +kernel
theorem d_Mo_block_31 : decode prog_11_method_39_code 31 = .ok (.sipush 32767, 3) := by decide +kernel
theorem d_Mo_block_34 : decode prog_11_method_39_code 34 = .ok (.if_icmp .gt 47, 3) := by decide +kernel
theorem d_Mo_block_37 : decode prog_11_method_39_code 37 = .ok (.iload 5, 2) := by decide +kernel
theorem d_Mo_block_39 : decode prog_11_method_39_code 39 = .ok (.ifCond .lt 42, 3) := by decide +kernel
theorem d_Mo_block_42 : decode prog_11_method_39_code 42 = .ok (.iload 5, 2) := by decide +kernel
theorem d_Mo_block_44 : decode prog_11_method_39_code 44 = .ok (.iconst 3, 1) := by decide +kernel
theorem d_Mo_block_45 : decode prog_11_method_39_code 45 = .ok (.if_icmp .gt 36, 3) := by decide +kernel
theorem d_Mo_block_48 : decode prog_11_method_39_code 48 = .ok (.aload_n 0, 1) := by decide +kernel
theorem d_Mo_block_49 : decode prog_11_method_39_code 49 = .ok (.getfield 202, 3) := by decide +kernel
theorem d_Mo_block_52 : decode prog_11_method_39_code 52 = .ok (.ifCond .eq 29, 3) := by decide +kernel
theorem d_Mo_block_55 : decode prog_11_method_39_code 55 = .ok (.aload_n 0, 1) := by decide +kernel
theorem d_Mo_block_56 : decode prog_11_method_39_code 56 = .ok (.getfield 202, 3) := by decide +kernel
theorem d_Mo_block_59 : decode prog_11_method_39_code 59 = .ok (.iconst 1, 1) := by decide +kernel
theorem d_Mo_block_60 : decode prog_11_method_39_code 60 = .ok (.if_icmp .le 8, 3) := by decide +kernel
theorem d_Mo_block_63 : decode prog_11_method_39_code 63 = .ok (.iload 5, 2) := by decide +kernel
theorem d_Mo_block_65 : decode prog_11_method_39_code 65 = .ok (.ifCond .eq 16, 3) := by decide +kernel
theorem d_Mo_block_68 : decode prog_11_method_39_code 68 = .ok (.iload 5, 2) := by decide +kernel
theorem d_Mo_block_70 : decode prog_11_method_39_code 70 = .ok (.iconst 2, 1) := by decide +kernel
theorem d_Mo_block_71 : decode prog_11_method_39_code 71 = .ok (.if_icmp .ne 13, 3) := by decide +kernel
theorem d_Mo_block_74 : decode prog_11_method_39_code 74 = .ok (.aload_n 0, 1) := by decide +kernel
theorem d_Mo_block_75 : decode prog_11_method_39_code 75 = .ok (.invokevirtual 211, 3) := by decide +kernel
theorem d_Mo_block_78 : decode prog_11_method_39_code 78 = .ok (.ifCond .ne 6, 3) := by decide +kernel
theorem d_Mo_block_81 : decode prog_11_method_39_code 81 = .ok (.bipush (-7), 2) := by decide +kernel
theorem d_Mo_block_83 : decode prog_11_method_39_code 83 = .ok (.ireturn, 1) := by decide +kernel
theorem d_Mo_block_84 : decode prog_11_method_39_code 84 = .ok (.aload_n 0, 1) := by decide +kernel
theorem d_Mo_block_85 : decode prog_11_method_39_code 85 = .ok (.getfield 86, 3) := by decide +kernel
theorem d_Mo_block_88 : decode prog_11_method_39_code 88 = .ok (.bipush 60, 2) := by decide +kernel
theorem d_Mo_block_90 : decode prog_11_method_39_code 90 = .ok (.if_icmp .eq 18, 3) := by decide +kernel
theorem d_Mo_block_93 : decode prog_11_method_39_code 93 = .ok (.aload_n 0, 1) := by decide +kernel
theorem d_Mo_block_94 : decode prog_11_method_39_code 94 = .ok (.getfield 104, 3) := by decide +kernel
theorem d_Mo_block_97 : decode prog_11_method_39_code 97 = .ok (.aload_n 0, 1) := by decide +kernel
theorem d_Mo_block_98 : decode prog_11_method_39_code 98 = .ok (.getfield 205, 3) := by decide +kernel
theorem d_Mo_block_101 : decode prog_11_method_39_code 101 = .ok (.iadd, 1) := by decide +kernel
theorem d_Mo_block_102 : decode prog_11_method_39_code 102 = .ok (.sipush 1200, 3) := by decide +kernel
theorem d_Mo_block_105 : decode prog_11_method_39_code 105 = .ok (.if_icmp .le 6, 3) := by decide +kernel
theorem d_Mo_block_108 : decode prog_11_method_39_code 108 = .ok (.bipush (-6), 2) := by decide +kernel
theorem d_Mo_block_110 : decode prog_11_method_39_code 110 = .ok (.ireturn, 1) := by decide +kernel
theorem d_Mo_block_111 : decode prog_11_method_39_code 111 = .ok (.aload_n 0, 1) := by decide +kernel
theorem d_Mo_block_112 : decode prog_11_method_39_code 112 = .ok (.iload_n 1, 1) := by decide +kernel
theorem d_Mo_block_113 : decode prog_11_method_39_code 113 = .ok (.sipush 163, 3) := by decide +kernel
theorem d_Mo_block_116 : decode prog_11_method_39_code 116 = .ok (.lconst 0, 1) := by decide +kernel
theorem d_Mo_block_117 : decode prog_11_method_39_code 117 = .ok (.invokevirtual 195, 3) := by decide +kernel
theorem d_Mo_block_120 : decode prog_11_method_39_code 120 = .ok (.istore 6, 2) := by decide +kernel
theorem d_Mo_block_122 : decode prog_11_method_39_code 122 = .ok (.aload_n 0, 1) := by decide +kernel
theorem d_Mo_block_123 : decode prog_11_method_39_code 123 = .ok (.getfield 26, 3) := by decide +kernel
theorem d_Mo_block_126 : decode prog_11_method_39_code 126 = .ok (.iload 6, 2) := by decide +kernel
theorem d_Mo_block_128 : decode prog_11_method_39_code 128 = .ok (.iload_n 2, 1) := by decide +kernel
theorem d_Mo_block_129 : decode prog_11_method_39_code 129 = .ok (.iastore, 1) := by decide +kernel
theorem d_Mo_block_130 : decode prog_11_method_39_code 130 = .ok (.aload_n 0, 1) := by decide +kernel
theorem d_Mo_block_131 : decode prog_11_method_39_code 131 = .ok (.getfield 29, 3) := by decide +kernel
theorem d_Mo_block_134 : decode prog_11_method_39_code 134 = .ok (.iload 6, 2) := by decide +kernel
theorem d_Mo_block_136 : decode prog_11_method_39_code 136 = .ok (.iload_n 3, 1) := by decide +kernel
theorem d_Mo_block_137 : decode prog_11_method_39_code 137 = .ok (.iastore, 1) := by decide +kernel
theorem d_Mo_block_138 : decode prog_11_method_39_code 138 = .ok (.aload_n 0, 1) := by decide +kernel
theorem d_Mo_block_139 : decode prog_11_method_39_code 139 = .ok (.getfield 32, 3) := by decide +kernel
theorem d_Mo_block_142 : decode prog_11_method_39_code 142 = .ok (.iload 6, 2) := by decide +kernel
theorem d_Mo_block_144 : decode prog_11_method_39_code 144 = .ok (.iload 4, 2) := by decide +kernel
theorem d_Mo_block_146 : decode prog_11_method_39_code 146 = .ok (.bastore, 1) := by decide +kernel
theorem d_Mo_block_147 : decode prog_11_method_39_code 147 = .ok (.aload_n 0, 1) := by decide +kernel
theorem d_Mo_block_148 : decode prog_11_method_39_code 148 = .ok (.getfield 36, 3) := by decide +kernel
theorem d_Mo_block_151 : decode prog_11_method_39_code 151 = .ok (.iload 6, 2) := by decide +kernel
theorem d_Mo_block_153 : decode prog_11_method_39_code 153 = .ok (.iload 5, 2) := by decide +kernel
theorem d_Mo_block_155 : decode prog_11_method_39_code 155 = .ok (.iastore, 1) := by decide +kernel
theorem d_Mo_block_156 : decode prog_11_method_39_code 156 = .ok (.aload_n 0, 1) := by decide +kernel
theorem d_Mo_block_157 : decode prog_11_method_39_code 157 = .ok (.getfield 20, 3) := by decide +kernel
theorem d_Mo_block_160 : decode prog_11_method_39_code 160 = .ok (.iload 6, 2) := by decide +kernel
theorem d_Mo_block_162 : decode prog_11_method_39_code 162 = .ok (.aload_n 0, 1) := by decide +kernel
theorem d_Mo_block_163 : decode prog_11_method_39_code 163 = .ok (.getfield 202, 3) := by decide +kernel
theorem d_Mo_block_166 : decode prog_11_method_39_code 166 = .ok (.iastore, 1) := by decide +kernel
theorem d_Mo_block_167 : decode prog_11_method_39_code 167 = .ok (.iconst 0, 1) := by decide +kernel
theorem d_Mo_block_168 : decode prog_11_method_39_code 168 = .ok (.istore 7, 2) := by decide +kernel
theorem d_Mo_block_170 : decode prog_11_method_39_code 170 = .ok (.iload 7, 2) := by decide +kernel
theorem d_Mo_block_172 : decode prog_11_method_39_code 172 = .ok (.aload_n 0, 1) := by decide +kernel
theorem d_Mo_block_173 : decode prog_11_method_39_code 173 = .ok (.getfield 202, 3) := by decide +kernel
theorem d_Mo_block_176 : decode prog_11_method_39_code 176 = .ok (.if_icmp .ge 100, 3) := by decide +kernel
theorem d_Mo_block_179 : decode prog_11_method_39_code 179 = .ok (.aload_n 0, 1) := by decide +kernel
theorem d_Mo_block_180 : decode prog_11_method_39_code 180 = .ok (.getfield 39, 3) := by decide +kernel
theorem d_Mo_block_183 : decode prog_11_method_39_code 183 = .ok (.bipush 8, 2) := by decide +kernel
theorem d_Mo_block_185 : decode prog_11_method_39_code 185 = .ok (.iload 6, 2) := by decide +kernel
theorem d_Mo_block_187 : decode prog_11_method_39_code 187 = .ok (.imul, 1) := by decide +kernel
theorem d_Mo_block_188 : decode prog_11_method_39_code 188 = .ok (.iload 7, 2) := by decide +kernel
theorem d_Mo_block_190 : decode prog_11_method_39_code 190 = .ok (.iadd, 1) := by decide +kernel
theorem d_Mo_block_191 : decode prog_11_method_39_code 191 = .ok (.aload_n 0, 1) := by decide +kernel
theorem d_Mo_block_192 : decode prog_11_method_39_code 192 = .ok (.getfield 48, 3) := by decide +kernel
theorem d_Mo_block_195 : decode prog_11_method_39_code 195 = .ok (.iload 7, 2) := by decide +kernel
theorem d_Mo_block_197 : decode prog_11_method_39_code 197 = .ok (.iaload, 1) := by decide +kernel
theorem d_Mo_block_198 : decode prog_11_method_39_code 198 = .ok (.iastore, 1) := by decide +kernel
theorem d_Mo_block_199 : decode prog_11_method_39_code 199 = .ok (.aload_n 0, 1) := by decide +kernel
theorem d_Mo_block_200 : decode prog_11_method_39_code 200 = .ok (.getfield 42, 3) := by decide +kernel
theorem d_Mo_block_203 : decode prog_11_method_39_code 203 = .ok (.bipush 8, 2) := by decide +kernel
theorem d_Mo_block_205 : decode prog_11_method_39_code 205 = .ok (.iload 6, 2) := by decide +kernel
theorem d_Mo_block_207 : decode prog_11_method_39_code 207 = .ok (.imul, 1) := by decide +kernel
theorem d_Mo_block_208 : decode prog_11_method_39_code 208 = .ok (.iload 7, 2) := by decide +kernel
theorem d_Mo_block_210 : decode prog_11_method_39_code 210 = .ok (.iadd, 1) := by decide +kernel
theorem d_Mo_block_211 : decode prog_11_method_39_code 211 = .ok (.aload_n 0, 1) := by decide +kernel
theorem d_Mo_block_212 : decode prog_11_method_39_code 212 = .ok (.getfield 104, 3) := by decide +kernel
theorem d_Mo_block_215 : decode prog_11_method_39_code 215 = .ok (.iastore, 1) := by decide +kernel
theorem d_Mo_block_216 : decode prog_11_method_39_code 216 = .ok (.iconst 0, 1) := by decide +kernel
theorem d_Mo_block_217 : decode prog_11_method_39_code 217 = .ok (.istore 8, 2) := by decide +kernel
theorem d_Mo_block_219 : decode prog_11_method_39_code 219 = .ok (.iload 8, 2) := by decide +kernel
theorem d_Mo_block_221 : decode prog_11_method_39_code 221 = .ok (.aload_n 0, 1) := by decide +kernel
theorem d_Mo_block_222 : decode prog_11_method_39_code 222 = .ok (.getfield 48, 3) := by decide +kernel
theorem d_Mo_block_225 : decode prog_11_method_39_code 225 = .ok (.iload 7, 2) := by decide +kernel
theorem d_Mo_block_227 : decode prog_11_method_39_code 227 = .ok (.iaload, 1) := by decide +kernel
theorem d_Mo_block_228 : decode prog_11_method_39_code 228 = .ok (.if_icmp .ge 42, 3) := by decide +kernel
theorem d_Mo_block_231 : decode prog_11_method_39_code 231 = .ok (.aload_n 0, 1) := by decide +kernel
theorem d_Mo_block_232 : decode prog_11_method_39_code 232 = .ok (.getfield 45, 3) := by decide +kernel
theorem d_Mo_block_235 : decode prog_11_method_39_code 235 = .ok (.aload_n 0, 1) := by decide +kernel
theorem d_Mo_block_236 : decode prog_11_method_39_code 236 = .ok (.getfield 104, 3) := by decide +kernel
theorem d_Mo_block_239 : decode prog_11_method_39_code 239 = .ok (.aload_n 0, 1) := by decide +kernel
theorem d_Mo_block_240 : decode prog_11_method_39_code 240 = .ok (.getfield 51, 3) := by decide +kernel
theorem d_Mo_block_243 : decode prog_11_method_39_code 243 = .ok (.iload 7, 2) := by decide +kernel
theorem d_Mo_block_245 : decode prog_11_method_39_code 245 = .ok (.iaload, 1) := by decide +kernel
theorem d_Mo_block_246 : decode prog_11_method_39_code 246 = .ok (.iload 8, 2) := by decide +kernel
theorem d_Mo_block_248 : decode prog_11_method_39_code 248 = .ok (.iadd, 1) := by decide +kernel
theorem d_Mo_block_249 : decode prog_11_method_39_code 249 = .ok (.sipush 255, 3) := by decide +kernel
theorem d_Mo_block_252 : decode prog_11_method_39_code 252 = .ok (.iand, 1) := by decide +kernel
theorem d_Mo_block_253 : decode prog_11_method_39_code 253 = .ok (.iastore, 1) := by decide +kernel
theorem d_Mo_block_254 : decode prog_11_method_39_code 254 = .ok (.aload_n 0, 1) := by decide +kernel
theorem d_Mo_block_255 : decode prog_11_method_39_code 255 = .ok (.dup, 1) := by decide +kernel
theorem d_Mo_block_256 : decode prog_11_method_39_code 256 = .ok (.getfield 104, 3) := by decide +kernel
theorem d_Mo_block_259 : decode prog_11_method_39_code 259 = .ok (.iconst 1, 1) := by decide +kernel
theorem d_Mo_block_260 : decode prog_11_method_39_code 260 = .ok (.iadd, 1) := by decide +kernel
theorem d_Mo_block_261 : decode prog_11_method_39_code 261 = .ok (.putfield 104, 3) := by decide +kernel
theorem d_Mo_block_264 : decode prog_11_method_39_code 264 = .ok (.iinc 8 1, 3) := by decide +kernel
theorem d_Mo_block_267 : decode prog_11_method_39_code 267 = .ok (.goto (-48), 3) := by decide +kernel
theorem d_Mo_block_270 : decode prog_11_method_39_code 270 = .ok (.iinc 7 1, 3) := by decide +kernel
theorem d_Mo_block_273 : decode prog_11_method_39_code 273 = .ok (.goto (-103), 3) := by decide +kernel
theorem d_Mo_block_276 : decode prog_11_method_39_code 276 = .ok (.aload_n 0, 1) := by decide +kernel
theorem d_Mo_block_277 : decode prog_11_method_39_code 277 = .ok (.iconst 0, 1) := by decide +kernel
theorem d_Mo_block_278 : decode prog_11_method_39_code 278 = .ok (.putfield 202, 3) := by decide +kernel
theorem d_Mo_block_281 : decode prog_11_method_39_code 281 = .ok (.aload_n 0, 1) := by decide +kernel
theorem d_Mo_block_282 : decode prog_11_method_39_code 282 = .ok (.iconst 0, 1) := by decide +kernel
theorem d_Mo_block_283 : decode prog_11_method_39_code 283 = .ok (.putfield 205, 3) := by decide +kernel
theorem d_Mo_block_286 : decode prog_11_method_39_code 286 = .ok (.iload 6, 2) := by decide +kernel
theorem d_Mo_block_288 : decode prog_11_method_39_code 288 = .ok (.ireturn, 1) := by decide +kernel
theorem d_Mo_id_0 : decode prog_11_method_40_code 0 = .ok (.aload_n 0, 1) := by decide +kernel
theorem d_Mo_id_1 : decode prog_11_method_40_code 1 = .ok (.iload_n 1, 1) := by decide +kernel
theorem d_Mo_id_2 : decode prog_11_method_40_code 2 = .ok (.invokevirtual 89, 3) := by decide +kernel
theorem d_Mo_id_5 : decode prog_11_method_40_code 5 = .ok (.ifCond .eq 12, 3) := by decide +kernel
theorem d_Mo_id_8 : decode prog_11_method_40_code 8 = .ok (.aload_n 0, 1) := by decide +kernel
theorem d_Mo_id_9 : decode prog_11_method_40_code 9 = .ok (.getfield 7, 3) := by decide +kernel
theorem d_Mo_id_12 : decode prog_11_method_40_code 12 = .ok (.iload_n 1, 1) := by decide +kernel
theorem d_Mo_id_13 : decode prog_11_method_40_code 13 = .ok (.iaload, 1) := by decide +kernel
theorem d_Mo_id_14 : decode prog_11_method_40_code 14 = .ok (.goto 4, 3) := by decide +kernel
theorem d_Mo_id_17 : decode prog_11_method_40_code 17 = .ok (.iconst (-1), 1) := by decide +kernel
theorem d_Mo_id_18 : decode prog_11_method_40_code 18 = .ok (.ireturn, 1) := by decide +kernel
theorem d_Mo_parent_0 : decode prog_11_method_41_code 0 = .ok (.aload_n 0, 1) := by decide +kernel
theorem d_Mo_parent_1 : decode prog_11_method_41_code 1 = .ok (.iload_n 1, 1) := by decide +kernel
theorem d_Mo_parent_2 : decode prog_11_method_41_code 2 = .ok (.invokevirtual 89, 3) := by decide +kernel
theorem d_Mo_parent_5 : decode prog_11_method_41_code 5 = .ok (.ifCond .eq 12, 3) := by decide +kernel
theorem d_Mo_parent_8 : decode prog_11_method_41_code 8 = .ok (.aload_n 0, 1) := by decide +kernel
theorem d_Mo_parent_9 : decode prog_11_method_41_code 9 = .ok (.getfield 13, 3) := by decide +kernel
theorem d_Mo_parent_12 : decode prog_11_method_41_code 12 = .ok (.iload_n 1, 1) := by decide +kernel
theorem d_Mo_parent_13 : decode prog_11_method_41_code 13 = .ok (.iaload, 1) := by decide +kernel
theorem d_Mo_parent_14 : decode prog_11_method_41_code 14 = .ok (.goto 4, 3) := by decide +kernel
theorem d_Mo_parent_17 : decode prog_11_method_41_code 17 = .ok (.iconst (-1), 1) := by decide +kernel
theorem d_Mo_parent_18 : decode prog_11_method_41_code 18 = .ok (.ireturn, 1) := by decide +kernel
theorem d_Mo_value_0 : decode prog_11_method_42_code 0 = .ok (.aload_n 0, 1) := by decide +kernel
theorem d_Mo_value_1 : decode prog_11_method_42_code 1 = .ok (.iload_n 1, 1) := by decide +kernel
theorem d_Mo_value_2 : decode prog_11_method_42_code 2 = .ok (.invokevirtual 89, 3) := by decide +kernel
theorem d_Mo_value_5 : decode prog_11_method_42_code 5 = .ok (.ifCond .ne 7, 3) := by decide +kernel
theorem d_Mo_value_8 : decode prog_11_method_42_code 8 = .ok (.ldc2_w 215, 3) := by decide +kernel
theorem d_Mo_value_11 : decode prog_11_method_42_code 11 = .ok (.lreturn, 1) := by decide +kernel
theorem d_Mo_value_12 : decode prog_11_method_42_code 12 = .ok (.aload_n 0, 1) := by decide +kernel
theorem d_Mo_value_13 : decode prog_11_method_42_code 13 = .ok (.getfield 7, 3) := by decide +kernel
theorem d_Mo_value_16 : decode prog_11_method_42_code 16 = .ok (.iload_n 1, 1) := by decide +kernel
theorem d_Mo_value_17 : decode prog_11_method_42_code 17 = .ok (.iaload, 1) := by decide +kernel
theorem d_Mo_value_18 : decode prog_11_method_42_code 18 = .ok (.invokestatic 82, 3) := by decide +kernel
theorem d_Mo_value_21 : decode prog_11_method_42_code 21 = .ok (.istore_n 2, 1) := by decide +kernel
theorem d_Mo_value_22 : decode prog_11_method_42_code 22 = .ok (.iload_n 2, 1) := by decide +kernel
theorem d_Mo_value_23 : decode prog_11_method_42_code 23 = .ok (.iconst 1, 1) := by decide +kernel
theorem d_Mo_value_24 : decode prog_11_method_42_code 24 = .ok (.if_icmp .ne 12, 3) := by decide +kernel
theorem d_Mo_value_27 : decode prog_11_method_42_code 27 = .ok (.aload_n 0, 1) := by decide +kernel
theorem d_Mo_value_28 : decode prog_11_method_42_code 28 = .ok (.getfield 16, 3) := by decide +kernel
theorem d_Mo_value_31 : decode prog_11_method_42_code 31 = .ok (.iload_n 1, 1) := by decide +kernel
theorem d_Mo_value_32 : decode prog_11_method_42_code 32 = .ok (.laload, 1) := by decide +kernel
theorem d_Mo_value_33 : decode prog_11_method_42_code 33 = .ok (.goto 32, 3) := by decide +kernel
theorem d_Mo_value_36 : decode prog_11_method_42_code 36 = .ok (.iload_n 2, 1) := by decide +kernel
theorem d_Mo_value_37 : decode prog_11_method_42_code 37 = .ok (.ifCond .ne 12, 3) := by decide +kernel
theorem d_Mo_value_40 : decode prog_11_method_42_code 40 = .ok (.aload_n 0, 1) := by decide +kernel
theorem d_Mo_value_41 : decode prog_11_method_42_code 41 = .ok (.iload_n 1, 1) := by decide +kernel
theorem d_Mo_value_42 : decode prog_11_method_42_code 42 = .ok (.invokevirtual 181, 3) := by decide +kernel
theorem d_Mo_value_45 : decode prog_11_method_42_code 45 = .ok (.i2l, 1) := by decide +kernel
theorem d_Mo_value_46 : decode prog_11_method_42_code 46 = .ok (.goto 19, 3) := by decide +kernel
theorem d_Mo_value_49 : decode prog_11_method_42_code 49 = .ok (.iload_n 2, 1) := by decide +kernel
theorem d_Mo_value_50 : decode prog_11_method_42_code 50 = .ok (.iconst 4, 1) := by decide +kernel
theorem d_Mo_value_51 : decode prog_11_method_42_code 51 = .ok (.if_icmp .ne 7, 3) := by decide +kernel
theorem d_Mo_value_54 : decode prog_11_method_42_code 54 = .ok (.lconst 0, 1) := by decide +kernel
theorem d_Mo_value_55 : decode prog_11_method_42_code 55 = .ok (.goto 10, 3) := by decide +kernel
theorem d_Mo_value_58 : decode prog_11_method_42_code 58 = .ok (.aload_n 0, 1) := by decide +kernel
theorem d_Mo_value_59 : decode prog_11_method_42_code 59 = .ok (.getfield 20, 3) := by decide +kernel
theorem d_Mo_value_62 : decode prog_11_method_42_code 62 = .ok (.iload_n 1, 1) := by decide +kernel
theorem d_Mo_value_63 : decode prog_11_method_42_code 63 = .ok (.iaload, 1) := by decide +kernel
theorem d_Mo_value_64 : decode prog_11_method_42_code 64 = .ok (.i2l, 1) := by decide +kernel
theorem d_Mo_value_65 : decode prog_11_method_42_code 65 = .ok (.lreturn, 1) := by decide +kernel
theorem d_Mo_part_0 : decode prog_11_method_43_code 0 = .ok (.aload_n 0, 1) := by decide +kernel
theorem d_Mo_part_1 : decode prog_11_method_43_code 1 = .ok (.iload_n 1, 1) := by decide +kernel
theorem d_Mo_part_2 : decode prog_11_method_43_code 2 = .ok (.invokevirtual 89, 3) := by decide +kernel
theorem d_Mo_part_5 : decode prog_11_method_43_code 5 = .ok (.ifCond .eq 7, 3) := by decide +kernel
theorem d_Mo_part_8 : decode prog_11_method_43_code 8 = .ok (.iload_n 2, 1) := by decide +kernel
theorem d_Mo_part_9 : decode prog_11_method_43_code 9 = .ok (.ifCond .ge 5, 3) := by decide +kernel
theorem d_Mo_part_12 : decode prog_11_method_43_code 12 = .ok (.iconst (-1), 1) := by decide +kernel
theorem d_Mo_part_13 : decode prog_11_method_43_code 13 = .ok (.ireturn, 1) := by decide +kernel
theorem d_Mo_part_14 : decode prog_11_method_43_code 14 = .ok (.aload_n 0, 1) := by decide +kernel
theorem d_Mo_part_15 : decode prog_11_method_43_code 15 = .ok (.getfield 7, 3) := by decide +kernel
theorem d_Mo_part_18 : decode prog_11_method_43_code 18 = .ok (.iload_n 1, 1) := by decide +kernel
theorem d_Mo_part_19 : decode prog_11_method_43_code 19 = .ok (.iaload, 1) := by decide +kernel
theorem d_Mo_part_20 : decode prog_11_method_43_code 20 = .ok (.invokestatic 82, 3) := by decide +kernel
theorem d_Mo_part_23 : decode prog_11_method_43_code 23 = .ok (.tableswitch 131 0 6 #[41, 131, 48, 74, 131, 131, 100], 41) := by decide +kernel
theorem d_Mo_part_64 : decode prog_11_method_43_code 64 = .ok (.aload_n 0, 1) := by decide +kernel
theorem d_Mo_part_65 : decode prog_11_method_43_code 65 = .ok (.iload_n 1, 1) := by decide +kernel
theorem d_Mo_part_66 : decode prog_11_method_43_code 66 = .ok (.iload_n 2, 1) := by decide +kernel
theorem d_Mo_part_67 : decode prog_11_method_43_code 67 = .ok (.invokevirtual 217, 3) := by decide +kernel
theorem d_Mo_part_70 : decode prog_11_method_43_code 70 = .ok (.ireturn, 1) := by decide +kernel
theorem d_Mo_part_71 : decode prog_11_method_43_code 71 = .ok (.iload_n 2, 1) := by decide +kernel
theorem d_Mo_part_72 : decode prog_11_method_43_code 72 = .ok (.aload_n 0, 1) := by decide +kernel
theorem d_Mo_part_73 : decode prog_11_method_43_code 73 = .ok (.getfield 20, 3) := by decide +kernel
theorem d_Mo_part_76 : decode prog_11_method_43_code 76 = .ok (.iload_n 1, 1) := by decide +kernel
theorem d_Mo_part_77 : decode prog_11_method_43_code 77 = .ok (.iaload, 1) := by decide +kernel
theorem d_Mo_part_78 : decode prog_11_method_43_code 78 = .ok (.if_icmp .ge 17, 3) := by decide +kernel
theorem d_Mo_part_81 : decode prog_11_method_43_code 81 = .ok (.aload_n 0, 1) := by decide +kernel
theorem d_Mo_part_82 : decode prog_11_method_43_code 82 = .ok (.getfield 23, 3) := by decide +kernel
theorem d_Mo_part_85 : decode prog_11_method_43_code 85 = .ok (.bipush 16, 2) := by decide +kernel
theorem d_Mo_part_87 : decode prog_11_method_43_code 87 = .ok (.iload_n 1, 1) := by decide +kernel
theorem d_Mo_part_88 : decode prog_11_method_43_code 88 = .ok (.imul, 1) := by decide +kernel
theorem d_Mo_part_89 : decode prog_11_method_43_code 89 = .ok (.iload_n 2, 1) := by decide +kernel
theorem d_Mo_part_90 : decode prog_11_method_43_code 90 = .ok (.iadd, 1) := by decide +kernel
theorem d_Mo_part_91 : decode prog_11_method_43_code 91 = .ok (.iaload, 1) := by decide +kernel
theorem d_Mo_part_92 : decode prog_11_method_43_code 92 = .ok (.goto 4, 3) := by decide +kernel
theorem d_Mo_part_95 : decode prog_11_method_43_code 95 = .ok (.iconst (-1), 1) := by decide +kernel
theorem d_Mo_part_96 : decode prog_11_method_43_code 96 = .ok (.ireturn, 1) := by decide +kernel
theorem d_Mo_part_97 : decode prog_11_method_43_code 97 = .ok (.iload_n 2, 1) := by decide +kernel
theorem d_Mo_part_98 : decode prog_11_method_43_code 98 = .ok (.aload_n 0, 1) := by decide +kernel
theorem d_Mo_part_99 : decode prog_11_method_43_code 99 = .ok (.getfield 20, 3) := by decide +kernel
theorem d_Mo_part_102 : decode prog_11_method_43_code 102 = .ok (.iload_n 1, 1) := by decide +kernel
theorem d_Mo_part_103 : decode prog_11_method_43_code 103 = .ok (.iaload, 1) := by decide +kernel
theorem d_Mo_part_104 : decode prog_11_method_43_code 104 = .ok (.if_icmp .ge 17, 3) := by decide +kernel
theorem d_Mo_part_107 : decode prog_11_method_43_code 107 = .ok (.aload_n 0, 1) := by decide +kernel
theorem d_Mo_part_108 : decode prog_11_method_43_code 108 = .ok (.getfield 39, 3) := by decide +kernel
theorem d_Mo_part_111 : decode prog_11_method_43_code 111 = .ok (.bipush 8, 2) := by decide +kernel
theorem d_Mo_part_113 : decode prog_11_method_43_code 113 = .ok (.iload_n 1, 1) := by decide +kernel
theorem d_Mo_part_114 : decode prog_11_method_43_code 114 = .ok (.imul, 1) := by decide +kernel
theorem d_Mo_part_115 : decode prog_11_method_43_code 115 = .ok (.iload_n 2, 1) := by decide +kernel
theorem d_Mo_part_116 : decode prog_11_method_43_code 116 = .ok (.iadd, 1) := by decide +kernel
theorem d_Mo_part_117 : decode prog_11_method_43_code 117 = .ok (.iaload, 1) := by decide +kernel
theorem d_Mo_part_118 : decode prog_11_method_43_code 118 = .ok (.goto 4, 3) := by decide +kernel
theorem d_Mo_part_121 : decode prog_11_method_43_code 121 = .ok (.iconst (-1), 1) := by decide +kernel
theorem d_Mo_part_122 : decode prog_11_method_43_code 122 = .ok (.ireturn, 1) := by decide +kernel
theorem d_Mo_part_123 : decode prog_11_method_43_code 123 = .ok (.iload_n 2, 1) := by decide +kernel
theorem d_Mo_part_124 : decode prog_11_method_43_code 124 = .ok (.aload_n 0, 1) := by decide +kernel
theorem d_Mo_part_125 : decode prog_11_method_43_code 125 = .ok (.getfield 20, 3) := by decide +kernel
theorem d_Mo_part_128 : decode prog_11_method_43_code 128 = .ok (.iload_n 1, 1) := by decide +kernel
theorem d_Mo_part_129 : decode prog_11_method_43_code 129 = .ok (.iaload, 1) := by decide +kernel
theorem d_Mo_part_130 : decode prog_11_method_43_code 130 = .ok (.if_icmp .ge 22, 3) := by decide +kernel
theorem d_Mo_part_133 : decode prog_11_method_43_code 133 = .ok (.aload_n 0, 1) := by decide +kernel
theorem d_Mo_part_134 : decode prog_11_method_43_code 134 = .ok (.getfield 45, 3) := by decide +kernel
theorem d_Mo_part_137 : decode prog_11_method_43_code 137 = .ok (.aload_n 0, 1) := by decide +kernel
theorem d_Mo_part_138 : decode prog_11_method_43_code 138 = .ok (.getfield 42, 3) := by decide +kernel
theorem d_Mo_part_141 : decode prog_11_method_43_code 141 = .ok (.bipush 8, 2) := by decide +kernel
theorem d_Mo_part_143 : decode prog_11_method_43_code 143 = .ok (.iload_n 1, 1) := by decide +kernel
theorem d_Mo_part_144 : decode prog_11_method_43_code 144 = .ok (.imul, 1) := by decide +kernel
theorem d_Mo_part_145 : decode prog_11_method_43_code 145 = .ok (.iaload, 1) := by decide +kernel
theorem d_Mo_part_146 : decode prog_11_method_43_code 146 = .ok (.iload_n 2, 1) := by decide +kernel
theorem d_Mo_part_147 : decode prog_11_method_43_code 147 = .ok (.iadd, 1) := by decide +kernel
theorem d_Mo_part_148 : decode prog_11_method_43_code 148 = .ok (.iaload, 1) := by decide +kernel
theorem d_Mo_part_149 : decode prog_11_method_43_code 149 = .ok (.goto 4, 3) := by decide +kernel
theorem d_Mo_part_152 : decode prog_11_method_43_code 152 = .ok (.iconst (-1), 1) := by decide +kernel
theorem d_Mo_part_153 : decode prog_11_method_43_code 153 = .ok (.ireturn, 1) := by decide +kernel
theorem d_Mo_part_154 : decode prog_11_method_43_code 154 = .ok (.iconst (-1), 1) := by decide +kernel
theorem d_Mo_part_155 : decode prog_11_method_43_code 155 = .ok (.ireturn, 1) := by decide +kernel
theorem d_Mo_sample_0 : decode prog_11_method_44_code 0 = .ok (.aload_n 0, 1) := by decide +kernel
theorem d_Mo_sample_1 : decode prog_11_method_44_code 1 = .ok (.iload_n 1, 1) := by decide +kernel
theorem d_Mo_sample_2 : decode prog_11_method_44_code 2 = .ok (.iconst 3, 1) := by decide +kernel
theorem d_Mo_sample_3 : decode prog_11_method_44_code 3 = .ok (.invokevirtual 199, 3) := by decide +kernel
theorem d_Mo_sample_6 : decode prog_11_method_44_code 6 = .ok (.ifCond .eq 36, 3) := by decide +kernel
theorem d_Mo_sample_9 : decode prog_11_method_44_code 9 = .ok (.iload_n 2, 1) := by decide +kernel
theorem d_Mo_sample_10 : decode prog_11_method_44_code 10 = .ok (.ifCond .lt 32, 3) := by decide +kernel
theorem d_Mo_sample_13 : decode prog_11_method_44_code 13 = .ok (.iload_n 2, 1) := by decide +kernel
theorem d_Mo_sample_14 : decode prog_11_method_44_code 14 = .ok (.aload_n 0, 1) := by decide +kernel
theorem d_Mo_sample_15 : decode prog_11_method_44_code 15 = .ok (.getfield 20, 3) := by decide +kernel
theorem d_Mo_sample_18 : decode prog_11_method_44_code 18 = .ok (.iload_n 1, 1) := by decide +kernel
theorem d_Mo_sample_19 : decode prog_11_method_44_code 19 = .ok (.iaload, 1) := by decide +kernel
theorem d_Mo_sample_20 : decode prog_11_method_44_code 20 = .ok (.if_icmp .ge 22, 3) := by decide +kernel
theorem d_Mo_sample_23 : decode prog_11_method_44_code 23 = .ok (.iload_n 3, 1) := by decide +kernel
theorem d_Mo_sample_24 : decode prog_11_method_44_code 24 = .ok (.ifCond .lt 18, 3) := by decide +kernel
theorem d_Mo_sample_27 : decode prog_11_method_44_code 27 = .ok (.iload_n 3, 1) := by decide +kernel
theorem d_Mo_sample_28 : decode prog_11_method_44_code 28 = .ok (.aload_n 0, 1) := by decide +kernel
theorem d_Mo_sample_29 : decode prog_11_method_44_code 29 = .ok (.getfield 39, 3) := by decide +kernel
theorem d_Mo_sample_32 : decode prog_11_method_44_code 32 = .ok (.bipush 8, 2) := by decide +kernel
theorem d_Mo_sample_34 : decode prog_11_method_44_code 34 = .ok (.iload_n 1, 1) := by decide +kernel
theorem d_Mo_sample_35 : decode prog_11_method_44_code 35 = .ok (.imul, 1) := by decide +kernel
theorem d_Mo_sample_36 : decode prog_11_method_44_code 36 = .ok (.iload_n 2, 1) := by decide +kernel
theorem d_Mo_sample_37 : decode prog_11_method_44_code 37 = .ok (.iadd, 1) := by decide +kernel
theorem d_Mo_sample_38 : decode prog_11_method_44_code 38 = .ok (.iaload, 1) := by decide +kernel
theorem d_Mo_sample_39 : decode prog_11_method_44_code 39 = .ok (.if_icmp .lt 5, 3) := by decide +kernel
theorem d_Mo_sample_42 : decode prog_11_method_44_code 42 = .ok (.iconst (-1), 1) := by decide +kernel
theorem d_Mo_sample_43 : decode prog_11_method_44_code 43 = .ok (.ireturn, 1) := by decide +kernel
theorem d_Mo_sample_44 : decode prog_11_method_44_code 44 = .ok (.aload_n 0, 1) := by decide +kernel
theorem d_Mo_sample_45 : decode prog_11_method_44_code 45 = .ok (.getfield 45, 3) := by decide +kernel
theorem d_Mo_sample_48 : decode prog_11_method_44_code 48 = .ok (.aload_n 0, 1) := by decide +kernel
theorem d_Mo_sample_49 : decode prog_11_method_44_code 49 = .ok (.getfield 42, 3) := by decide +kernel
theorem d_Mo_sample_52 : decode prog_11_method_44_code 52 = .ok (.bipush 8, 2) := by decide +kernel
theorem d_Mo_sample_54 : decode prog_11_method_44_code 54 = .ok (.iload_n 1, 1) := by decide +kernel
theorem d_Mo_sample_55 : decode prog_11_method_44_code 55 = .ok (.imul, 1) := by decide +kernel
theorem d_Mo_sample_56 : decode prog_11_method_44_code 56 = .ok (.iload_n 2, 1) := by decide +kernel
theorem d_Mo_sample_57 : decode prog_11_method_44_code 57 = .ok (.iadd, 1) := by decide +kernel
theorem d_Mo_sample_58 : decode prog_11_method_44_code 58 = .ok (.iaload, 1) := by decide +kernel
theorem d_Mo_sample_59 : decode prog_11_method_44_code 59 = .ok (.iload_n 3, 1) := by decide +kernel
theorem d_Mo_sample_60 : decode prog_11_method_44_code 60 = .ok (.iadd, 1) := by decide +kernel
theorem d_Mo_sample_61 : decode prog_11_method_44_code 61 = .ok (.iaload, 1) := by decide +kernel
theorem d_Mo_sample_62 : decode prog_11_method_44_code 62 = .ok (.ireturn, 1) := by decide +kernel
theorem d_Mo_detail_0 : decode prog_11_method_45_code 0 = .ok (.aload_n 0, 1) := by decide +kernel
theorem d_Mo_detail_1 : decode prog_11_method_45_code 1 = .ok (.iload_n 1, 1) := by decide +kernel
theorem d_Mo_detail_2 : decode prog_11_method_45_code 2 = .ok (.iconst 3, 1) := by decide +kernel
theorem d_Mo_detail_3 : decode prog_11_method_45_code 3 = .ok (.invokevirtual 199, 3) := by decide +kernel
theorem d_Mo_detail_6 : decode prog_11_method_45_code 6 = .ok (.ifCond .eq 12, 3) := by decide +kernel
theorem d_Mo_detail_9 : decode prog_11_method_45_code 9 = .ok (.iload_n 2, 1) := by decide +kernel
theorem d_Mo_detail_10 : decode prog_11_method_45_code 10 = .ok (.ifCond .lt 8, 3) := by decide +kernel
theorem d_Mo_detail_13 : decode prog_11_method_45_code 13 = .ok (.iload_n 2, 1) := by decide +kernel
theorem d_Mo_detail_14 : decode prog_11_method_45_code 14 = .ok (.iconst 3, 1) := by decide +kernel
theorem d_Mo_detail_15 : decode prog_11_method_45_code 15 = .ok (.if_icmp .le 6, 3) := by decide +kernel
theorem d_Mo_detail_18 : decode prog_11_method_45_code 18 = .ok (.ldc 220, 2) := by decide +kernel
theorem d_Mo_detail_20 : decode prog_11_method_45_code 20 = .ok (.ireturn, 1) := by decide +kernel
theorem d_Mo_detail_21 : decode prog_11_method_45_code 21 = .ok (.iload_n 2, 1) := by decide +kernel
theorem d_Mo_detail_22 : decode prog_11_method_45_code 22 = .ok (.ifCond .ne 12, 3) := by decide +kernel
theorem d_Mo_detail_25 : decode prog_11_method_45_code 25 = .ok (.aload_n 0, 1) := by decide +kernel
theorem d_Mo_detail_26 : decode prog_11_method_45_code 26 = .ok (.getfield 26, 3) := by decide +kernel
theorem d_Mo_detail_29 : decode prog_11_method_45_code 29 = .ok (.iload_n 1, 1) := by decide +kernel
theorem d_Mo_detail_30 : decode prog_11_method_45_code 30 = .ok (.iaload, 1) := by decide +kernel
theorem d_Mo_detail_31 : decode prog_11_method_45_code 31 = .ok (.goto 45, 3) := by decide +kernel
theorem d_Mo_detail_34 : decode prog_11_method_45_code 34 = .ok (.iload_n 2, 1) := by decide +kernel
theorem d_Mo_detail_35 : decode prog_11_method_45_code 35 = .ok (.iconst 1, 1) := by decide +kernel
theorem d_Mo_detail_36 : decode prog_11_method_45_code 36 = .ok (.if_icmp .ne 12, 3) := by decide +kernel
theorem d_Mo_detail_39 : decode prog_11_method_45_code 39 = .ok (.aload_n 0, 1) := by decide +kernel
theorem d_Mo_detail_40 : decode prog_11_method_45_code 40 = .ok (.getfield 29, 3) := by decide +kernel
theorem d_Mo_detail_43 : decode prog_11_method_45_code 43 = .ok (.iload_n 1, 1) := by decide +kernel
theorem d_Mo_detail_44 : decode prog_11_method_45_code 44 = .ok (.iaload, 1) := by decide +kernel
theorem d_Mo_detail_45 : decode prog_11_method_45_code 45 = .ok (.goto 31, 3) := by decide +kernel
theorem d_Mo_detail_48 : decode prog_11_method_45_code 48 = .ok (.iload_n 2, 1) := by decide +kernel
theorem d_Mo_detail_49 : decode prog_11_method_45_code 49 = .ok (.iconst 2, 1) := by decide +kernel
theorem d_Mo_detail_50 : decode prog_11_method_45_code 50 = .ok (.if_icmp .ne 20, 3) := by decide +kernel
theorem d_Mo_detail_53 : decode prog_11_method_45_code 53 = .ok (.aload_n 0, 1) := by decide +kernel
theorem d_Mo_detail_54 : decode prog_11_method_45_code 54 = .ok (.getfield 32, 3) := by decide +kernel
theorem d_Mo_detail_57 : decode prog_11_method_45_code 57 = .ok (.iload_n 1, 1) := by decide +kernel
theorem d_Mo_detail_58 : decode prog_11_method_45_code 58 = .ok (.baload, 1) := by decide +kernel
theorem d_Mo_detail_59 : decode prog_11_method_45_code 59 = .ok (.ifCond .eq 7, 3) := by decide +kernel
theorem d_Mo_detail_62 : decode prog_11_method_45_code 62 = .ok (.iconst 1, 1) := by decide +kernel
theorem d_Mo_detail_63 : decode prog_11_method_45_code 63 = .ok (.goto 13, 3) := by decide +kernel
theorem d_Mo_detail_66 : decode prog_11_method_45_code 66 = .ok (.iconst 0, 1) := by decide +kernel
theorem d_Mo_detail_67 : decode prog_11_method_45_code 67 = .ok (.goto 9, 3) := by decide +kernel
theorem d_Mo_detail_70 : decode prog_11_method_45_code 70 = .ok (.aload_n 0, 1) := by decide +kernel
theorem d_Mo_detail_71 : decode prog_11_method_45_code 71 = .ok (.getfield 36, 3) := by decide +kernel
theorem d_Mo_detail_74 : decode prog_11_method_45_code 74 = .ok (.iload_n 1, 1) := by decide +kernel
theorem d_Mo_detail_75 : decode prog_11_method_45_code 75 = .ok (.iaload, 1) := by decide +kernel
theorem d_Mo_detail_76 : decode prog_11_method_45_code 76 = .ok (.ireturn, 1) := by decide +kernel
theorem d_Mo_widthFor_0 : decode prog_11_method_46_code 0 = .ok (.iconst 1, 1) := by decide +kernel
theorem d_Mo_widthFor_1 : decode prog_11_method_46_code 1 = .ok (.istore_n 2, 1) := by decide +kernel
theorem d_Mo_widthFor_2 : decode prog_11_method_46_code 2 = .ok (.lload_n 0, 1) := by decide +kernel
theorem d_Mo_widthFor_3 : decode prog_11_method_46_code 3 = .ok (.lconst 1, 1) := by decide +kernel
theorem d_Mo_widthFor_4 : decode prog_11_method_46_code 4 = .ok (.bipush 7, 2) := by decide +kernel
theorem d_Mo_widthFor_6 : decode prog_11_method_46_code 6 = .ok (.iload_n 2, 1) := by decide +kernel
theorem d_Mo_widthFor_7 : decode prog_11_method_46_code 7 = .ok (.imul, 1) := by decide +kernel
theorem d_Mo_widthFor_8 : decode prog_11_method_46_code 8 = .ok (.lshl, 1) := by decide +kernel
theorem d_Mo_widthFor_9 : decode prog_11_method_46_code 9 = .ok (.lconst 1, 1) := by decide +kernel
theorem d_Mo_widthFor_10 : decode prog_11_method_46_code 10 = .ok (.lsub, 1) := by decide +kernel
theorem d_Mo_widthFor_11 : decode prog_11_method_46_code 11 = .ok (.lcmp, 1) := by decide +kernel
theorem d_Mo_widthFor_12 : decode prog_11_method_46_code 12 = .ok (.ifCond .lt 9, 3) := by decide +kernel
theorem d_Mo_widthFor_15 : decode prog_11_method_46_code 15 = .ok (.iinc 2 1, 3) := by decide +kernel
theorem d_Mo_widthFor_18 : decode prog_11_method_46_code 18 = .ok (.goto (-16), 3) := by decide +kernel
theorem d_Mo_widthFor_21 : decode prog_11_method_46_code 21 = .ok (.iload_n 2, 1) := by decide +kernel
theorem d_Mo_widthFor_22 : decode prog_11_method_46_code 22 = .ok (.ireturn, 1) := by decide +kernel
theorem d_Mo_idWidth_0 : decode prog_11_method_47_code 0 = .ok (.iload_n 0, 1) := by decide +kernel
theorem d_Mo_idWidth_1 : decode prog_11_method_47_code 1 = .ok (.ldc 221, 2) := by decide +kernel
theorem d_Mo_idWidth_3 : decode prog_11_method_47_code 3 = .ok (.if_icmp .le 7, 3) := by decide +kernel
theorem d_Mo_idWidth_6 : decode prog_11_method_47_code 6 = .ok (.iconst 4, 1) := by decide +kernel
theorem d_Mo_idWidth_7 : decode prog_11_method_47_code 7 = .ok (.goto 25, 3) := by decide +kernel
theorem d_Mo_idWidth_10 : decode prog_11_method_47_code 10 = .ok (.iload_n 0, 1) := by decide +kernel
theorem d_Mo_idWidth_11 : decode prog_11_method_47_code 11 = .ok (.ldc 222, 2) := by decide +kernel
theorem d_Mo_idWidth_13 : decode prog_11_method_47_code 13 = .ok (.if_icmp .le 7, 3) := by decide +kernel
theorem d_Mo_idWidth_16 : decode prog_11_method_47_code 16 = .ok (.iconst 3, 1) := by decide +kernel
theorem d_Mo_idWidth_17 : decode prog_11_method_47_code 17 = .ok (.goto 15, 3) := by decide +kernel
theorem d_Mo_idWidth_20 : decode prog_11_method_47_code 20 = .ok (.iload_n 0, 1) := by decide +kernel
theorem d_Mo_idWidth_21 : decode prog_11_method_47_code 21 = .ok (.sipush 255, 3) := by decide +kernel
theorem d_Mo_idWidth_24 : decode prog_11_method_47_code 24 = .ok (.if_icmp .le 7, 3) := by decide +kernel
theorem d_Mo_idWidth_27 : decode prog_11_method_47_code 27 = .ok (.iconst 2, 1) := by decide +kernel
theorem d_Mo_idWidth_28 : decode prog_11_method_47_code 28 = .ok (.goto 4, 3) := by decide +kernel
theorem d_Mo_idWidth_31 : decode prog_11_method_47_code 31 = .ok (.iconst 1, 1) := by decide +kernel
theorem d_Mo_idWidth_32 : decode prog_11_method_47_code 32 = .ok (.ireturn, 1) := by decide +kernel
theorem d_Mo_widthForStep_0 : decode prog_11_method_48_code 0 = .ok (.iconst 1, 1) := by decide +kernel
theorem d_Mo_widthForStep_1 : decode prog_11_method_48_code 1 = .ok (.istore_n 1, 1) := by decide +kernel
theorem d_Mo_widthForStep_2 : decode prog_11_method_48_code 2 = .ok (.iload_n 0, 1) := by decide +kernel
theorem d_Mo_widthForStep_3 : decode prog_11_method_48_code 3 = .ok (.i2l, 1) := by decide +kernel
theorem d_Mo_widthForStep_4 : decode prog_11_method_48_code 4 = .ok (.lconst 1, 1) := by decide +kernel
theorem d_Mo_widthForStep_5 : decode prog_11_method_48_code 5 = .ok (.bipush 7, 2) := by decide +kernel
theorem d_Mo_widthForStep_7 : decode prog_11_method_48_code 7 = .ok (.iload_n 1, 1) := by decide +kernel
theorem d_Mo_widthForStep_8 : decode prog_11_method_48_code 8 = .ok (.imul, 1) := by decide +kernel
theorem d_Mo_widthForStep_9 : decode prog_11_method_48_code 9 = .ok (.iconst 1, 1) := by decide +kernel
theorem d_Mo_widthForStep_10 : decode prog_11_method_48_code 10 = .ok (.isub, 1) := by decide +kernel
theorem d_Mo_widthForStep_11 : decode prog_11_method_48_code 11 = .ok (.lshl, 1) := by decide +kernel
theorem d_Mo_widthForStep_12 : decode prog_11_method_48_code 12 = .ok (.ladd, 1) := by decide +kernel
theorem d_Mo_widthForStep_13 : decode prog_11_method_48_code 13 = .ok (.lconst 1, 1) := by decide +kernel
theorem d_Mo_widthForStep_14 : decode prog_11_method_48_code 14 = .ok (.lsub, 1) := by decide +kernel
theorem d_Mo_widthForStep_15 : decode prog_11_method_48_code 15 = .ok (.lconst 0, 1) := by decide +kernel
theorem d_Mo_widthForStep_16 : decode prog_11_method_48_code 16 = .ok (.lcmp, 1) := by decide +kernel
theorem d_Mo_widthForStep_17 : decode prog_11_method_48_code 17 = .ok (.ifCond .lt 28, 3) := by decide +kernel
theorem d_Mo_widthForStep_20 : decode prog_11_method_48_code 20 = .ok (.iload_n 0, 1) := by decide +kernel
theorem d_Mo_widthForStep_21 : decode prog_11_method_48_code 21 = .ok (.i2l, 1) := by decide +kernel
theorem d_Mo_widthForStep_22 : decode prog_11_method_48_code 22 = .ok (.lconst 1, 1) := by decide +kernel
theorem d_Mo_widthForStep_23 : decode prog_11_method_48_code 23 = .ok (.bipush 7, 2) := by decide +kernel
theorem d_Mo_widthForStep_25 : decode prog_11_method_48_code 25 = .ok (.iload_n 1, 1) := by decide +kernel
theorem d_Mo_widthForStep_26 : decode prog_11_method_48_code 26 = .ok (.imul, 1) := by decide +kernel
theorem d_Mo_widthForStep_27 : decode prog_11_method_48_code 27 = .ok (.iconst 1, 1) := by decide +kernel
theorem d_Mo_widthForStep_28 : decode prog_11_method_48_code 28 = .ok (.isub, 1) := by decide +kernel
theorem d_Mo_widthForStep_29 : decode prog_11_method_48_code 29 = .ok (.lshl, 1) := by decide +kernel
theorem d_Mo_widthForStep_30 : decode prog_11_method_48_code 30 = .ok (.ladd, 1) := by decide +kernel
theorem d_Mo_widthForStep_31 : decode prog_11_method_48_code 31 = .ok (.lconst 1, 1) := by decide +kernel
theorem d_Mo_widthForStep_32 : decode prog_11_method_48_code 32 = .ok (.lsub, 1) := by decide +kernel
theorem d_Mo_widthForStep_33 : decode prog_11_method_48_code 33 = .ok (.lconst 1, 1) := by decide +kernel
theorem d_Mo_widthForStep_34 : decode prog_11_method_48_code 34 = .ok (.bipush 7, 2) := by decide +kernel
theorem d_Mo_widthForStep_36 : decode prog_11_method_48_code 36 = .ok (.iload_n 1, 1) := by decide +kernel
theorem d_Mo_widthForStep_37 : decode prog_11_method_48_code 37 = .ok (.imul, 1) := by decide +kernel
theorem d_Mo_widthForStep_38 : decode prog_11_method_48_code 38 = .ok (.lshl, 1) := by decide +kernel
theorem d_Mo_widthForStep_39 : decode prog_11_method_48_code 39 = .ok (.lconst 1, 1) := by decide +kernel
theorem d_Mo_widthForStep_40 : decode prog_11_method_48_code 40 = .ok (.lsub, 1) := by decide +kernel
theorem d_Mo_widthForStep_41 : decode prog_11_method_48_code 41 = .ok (.lcmp, 1) := by decide +kernel
theorem d_Mo_widthForStep_42 : decode prog_11_method_48_code 42 = .ok (.ifCond .lt 9, 3) := by decide +kernel
theorem d_Mo_widthForStep_45 : decode prog_11_method_48_code 45 = .ok (.iinc 1 1, 3) := by decide +kernel
theorem d_Mo_widthForStep_48 : decode prog_11_method_48_code 48 = .ok (.goto (-46), 3) := by decide +kernel
theorem d_Mo_widthForStep_51 : decode prog_11_method_48_code 51 = .ok (.iload_n 1, 1) := by decide +kernel
theorem d_Mo_widthForStep_52 : decode prog_11_method_48_code 52 = .ok (.ireturn, 1) := by decide +kernel
theorem d_Mo_blockBytes_0 : decode prog_11_method_49_code 0 = .ok (.aload_n 0, 1) := by decide +kernel
theorem d_Mo_blockBytes_1 : decode prog_11_method_49_code 1 = .ok (.getfield 36, 3) := by decide +kernel
theorem d_Mo_blockBytes_4 : decode prog_11_method_49_code 4 = .ok (.iload_n 1, 1) := by decide +kernel
theorem d_Mo_blockBytes_5 : decode prog_11_method_49_code 5 = .ok (.iaload, 1) := by decide +kernel
theorem d_Mo_blockBytes_6 : decode prog_11_method_49_code 6 = .ok (.ifCond .le 7, 3) := by decide +kernel
theorem d_Mo_blockBytes_9 : decode prog_11_method_49_code 9 = .ok (.iconst 5, 1) := by decide +kernel

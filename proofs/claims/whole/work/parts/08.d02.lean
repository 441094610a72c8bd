/-! decode rows, printed by a program of mine out of the listing -/
theorem d40_0 : decode prog_3_method_14_code 0 = .ok (.aload_n 0, 1) := by decide +kernel
theorem d40_1 : decode prog_3_method_14_code 1 = .ok (.getfield 9, 3) := by decide +kernel
theorem d40_4 : decode prog_3_method_14_code 4 = .ok (.getfield 91, 3) := by decide +kernel
theorem d40_7 : decode prog_3_method_14_code 7 = .ok (.iload_n 2, 1) := by decide +kernel
theorem d40_8 : decode prog_3_method_14_code 8 = .ok (.iaload, 1) := by decide +kernel
theorem d40_9 : decode prog_3_method_14_code 9 = .ok (.istore_n 3, 1) := by decide +kernel
theorem d40_10 : decode prog_3_method_14_code 10 = .ok (.aload_n 0, 1) := by decide +kernel
theorem d40_11 : decode prog_3_method_14_code 11 = .ok (.getfield 9, 3) := by decide +kernel
theorem d40_14 : decode prog_3_method_14_code 14 = .ok (.getfield 126, 3) := by decide +kernel
theorem d40_17 : decode prog_3_method_14_code 17 = .ok (.iload_n 2, 1) := by decide +kernel
theorem d40_18 : decode prog_3_method_14_code 18 = .ok (.iaload, 1) := by decide +kernel
theorem d40_19 : decode prog_3_method_14_code 19 = .ok (.istore 4, 2) := by decide +kernel
theorem d40_21 : decode prog_3_method_14_code 21 = .ok (.aload_n 0, 1) := by decide +kernel
theorem d40_22 : decode prog_3_method_14_code 22 = .ok (.getfield 9, 3) := by decide +kernel
theorem d40_25 : decode prog_3_method_14_code 25 = .ok (.getfield 160, 3) := by decide +kernel
theorem d40_28 : decode prog_3_method_14_code 28 = .ok (.iload_n 2, 1) := by decide +kernel
theorem d40_29 : decode prog_3_method_14_code 29 = .ok (.iaload, 1) := by decide +kernel
theorem d40_30 : decode prog_3_method_14_code 30 = .ok (.istore 5, 2) := by decide +kernel
theorem d40_32 : decode prog_3_method_14_code 32 = .ok (.aload_n 0, 1) := by decide +kernel
theorem d40_33 : decode prog_3_method_14_code 33 = .ok (.getfield 9, 3) := by decide +kernel
theorem d40_36 : decode prog_3_method_14_code 36 = .ok (.iload_n 3, 1) := by decide +kernel
theorem d40_37 : decode prog_3_method_14_code 37 = .ok (.invokevirtual 170, 3) := by decide +kernel
theorem d40_40 : decode prog_3_method_14_code 40 = .ok (.ifCond .eq 39, 3) := by decide +kernel
theorem d40_43 : decode prog_3_method_14_code 43 = .ok (.aload_n 0, 1) := by decide +kernel
theorem d40_44 : decode prog_3_method_14_code 44 = .ok (.iload 4, 2) := by decide +kernel
theorem d40_46 : decode prog_3_method_14_code 46 = .ok (.aload_n 0, 1) := by decide +kernel
theorem d40_47 : decode prog_3_method_14_code 47 = .ok (.getfield 9, 3) := by decide +kernel
theorem d40_50 : decode prog_3_method_14_code 50 = .ok (.getfield 173, 3) := by decide +kernel
theorem d40_53 : decode prog_3_method_14_code 53 = .ok (.iload_n 3, 1) := by decide +kernel
theorem d40_54 : decode prog_3_method_14_code 54 = .ok (.iaload, 1) := by decide +kernel
theorem d40_55 : decode prog_3_method_14_code 55 = .ok (.invokevirtual 176, 3) := by decide +kernel
theorem d40_58 : decode prog_3_method_14_code 58 = .ok (.ifCond .eq 21, 3) := by decide +kernel
theorem d40_61 : decode prog_3_method_14_code 61 = .ok (.aload_n 0, 1) := by decide +kernel
theorem d40_62 : decode prog_3_method_14_code 62 = .ok (.iload 5, 2) := by decide +kernel
theorem d40_64 : decode prog_3_method_14_code 64 = .ok (.aload_n 0, 1) := by decide +kernel
theorem d40_65 : decode prog_3_method_14_code 65 = .ok (.getfield 9, 3) := by decide +kernel
theorem d40_68 : decode prog_3_method_14_code 68 = .ok (.getfield 179, 3) := by decide +kernel
theorem d40_71 : decode prog_3_method_14_code 71 = .ok (.iload_n 3, 1) := by decide +kernel
theorem d40_72 : decode prog_3_method_14_code 72 = .ok (.iaload, 1) := by decide +kernel
theorem d40_73 : decode prog_3_method_14_code 73 = .ok (.invokevirtual 176, 3) := by decide +kernel
theorem d40_76 : decode prog_3_method_14_code 76 = .ok (.ifCond .ne 15, 3) := by decide +kernel
theorem d40_79 : decode prog_3_method_14_code 79 = .ok (.aload_n 0, 1) := by decide +kernel
theorem d40_80 : decode prog_3_method_14_code 80 = .ok (.aload_n 1, 1) := by decide +kernel
theorem d40_81 : decode prog_3_method_14_code 81 = .ok (.getfield 46, 3) := by decide +kernel
theorem d40_84 : decode prog_3_method_14_code 84 = .ok (.iload_n 2, 1) := by decide +kernel
theorem d40_85 : decode prog_3_method_14_code 85 = .ok (.bipush (-6), 2) := by decide +kernel
theorem d40_87 : decode prog_3_method_14_code 87 = .ok (.invokevirtual 36, 3) := by decide +kernel
theorem d40_90 : decode prog_3_method_14_code 90 = .ok (.ireturn, 1) := by decide +kernel
theorem d40_91 : decode prog_3_method_14_code 91 = .ok (.iload 4, 2) := by decide +kernel
theorem d40_93 : decode prog_3_method_14_code 93 = .ok (.iconst (-1), 1) := by decide +kernel
theorem d40_94 : decode prog_3_method_14_code 94 = .ok (.if_icmp .eq 13, 3) := by decide +kernel
theorem d40_97 : decode prog_3_method_14_code 97 = .ok (.aload_n 0, 1) := by decide +kernel
theorem d40_98 : decode prog_3_method_14_code 98 = .ok (.aload_n 1, 1) := by decide +kernel
theorem d40_99 : decode prog_3_method_14_code 99 = .ok (.iload 4, 2) := by decide +kernel
theorem d40_101 : decode prog_3_method_14_code 101 = .ok (.invokevirtual 49, 3) := by decide +kernel
theorem d40_104 : decode prog_3_method_14_code 104 = .ok (.ifCond .eq 19, 3) := by decide +kernel
theorem d40_107 : decode prog_3_method_14_code 107 = .ok (.iload 5, 2) := by decide +kernel
theorem d40_109 : decode prog_3_method_14_code 109 = .ok (.iconst (-1), 1) := by decide +kernel
theorem d40_110 : decode prog_3_method_14_code 110 = .ok (.if_icmp .eq 15, 3) := by decide +kernel
theorem d40_113 : decode prog_3_method_14_code 113 = .ok (.aload_n 0, 1) := by decide +kernel
theorem d40_114 : decode prog_3_method_14_code 114 = .ok (.aload_n 1, 1) := by decide +kernel
theorem d40_115 : decode prog_3_method_14_code 115 = .ok (.iload 5, 2) := by decide +kernel
theorem d40_117 : decode prog_3_method_14_code 117 = .ok (.invokevirtual 49, 3) := by decide +kernel
theorem d40_120 : decode prog_3_method_14_code 120 = .ok (.ifCond .ne 5, 3) := by decide +kernel
theorem d40_123 : decode prog_3_method_14_code 123 = .ok (.iconst 0, 1) := by decide +kernel
theorem d40_124 : decode prog_3_method_14_code 124 = .ok (.ireturn, 1) := by decide +kernel
theorem d40_125 : decode prog_3_method_14_code 125 = .ok (.aload_n 0, 1) := by decide +kernel
theorem d40_126 : decode prog_3_method_14_code 126 = .ok (.aload_n 1, 1) := by decide +kernel
theorem d40_127 : decode prog_3_method_14_code 127 = .ok (.iload 4, 2) := by decide +kernel
theorem d40_129 : decode prog_3_method_14_code 129 = .ok (.aload_n 0, 1) := by decide +kernel
theorem d40_130 : decode prog_3_method_14_code 130 = .ok (.getfield 9, 3) := by decide +kernel
theorem d40_133 : decode prog_3_method_14_code 133 = .ok (.getfield 173, 3) := by decide +kernel
theorem d40_136 : decode prog_3_method_14_code 136 = .ok (.iload_n 3, 1) := by decide +kernel
theorem d40_137 : decode prog_3_method_14_code 137 = .ok (.iaload, 1) := by decide +kernel
theorem d40_138 : decode prog_3_method_14_code 138 = .ok (.invokevirtual 182, 3) := by decide +kernel
theorem d40_141 : decode prog_3_method_14_code 141 = .ok (.ifCond .eq 22, 3) := by decide +kernel
theorem d40_144 : decode prog_3_method_14_code 144 = .ok (.aload_n 0, 1) := by decide +kernel
theorem d40_145 : decode prog_3_method_14_code 145 = .ok (.aload_n 1, 1) := by decide +kernel
theorem d40_146 : decode prog_3_method_14_code 146 = .ok (.iload 5, 2) := by decide +kernel
theorem d40_148 : decode prog_3_method_14_code 148 = .ok (.aload_n 0, 1) := by decide +kernel
theorem d40_149 : decode prog_3_method_14_code 149 = .ok (.getfield 9, 3) := by decide +kernel
theorem d40_152 : decode prog_3_method_14_code 152 = .ok (.getfield 179, 3) := by decide +kernel
theorem d40_155 : decode prog_3_method_14_code 155 = .ok (.iload_n 3, 1) := by decide +kernel
theorem d40_156 : decode prog_3_method_14_code 156 = .ok (.iaload, 1) := by decide +kernel
theorem d40_157 : decode prog_3_method_14_code 157 = .ok (.invokevirtual 182, 3) := by decide +kernel
theorem d40_160 : decode prog_3_method_14_code 160 = .ok (.ifCond .ne 15, 3) := by decide +kernel
theorem d40_163 : decode prog_3_method_14_code 163 = .ok (.aload_n 0, 1) := by decide +kernel
theorem d40_164 : decode prog_3_method_14_code 164 = .ok (.aload_n 1, 1) := by decide +kernel
theorem d40_165 : decode prog_3_method_14_code 165 = .ok (.getfield 46, 3) := by decide +kernel
theorem d40_168 : decode prog_3_method_14_code 168 = .ok (.iload_n 2, 1) := by decide +kernel
theorem d40_169 : decode prog_3_method_14_code 169 = .ok (.bipush (-2), 2) := by decide +kernel
theorem d40_171 : decode prog_3_method_14_code 171 = .ok (.invokevirtual 36, 3) := by decide +kernel
theorem d40_174 : decode prog_3_method_14_code 174 = .ok (.ireturn, 1) := by decide +kernel
theorem d40_175 : decode prog_3_method_14_code 175 = .ok (.aload_n 0, 1) := by decide +kernel
theorem d40_176 : decode prog_3_method_14_code 176 = .ok (.iload_n 3, 1) := by decide +kernel
theorem d40_177 : decode prog_3_method_14_code 177 = .ok (.aload_n 0, 1) := by decide +kernel
theorem d40_178 : decode prog_3_method_14_code 178 = .ok (.aload_n 1, 1) := by decide +kernel
theorem d40_179 : decode prog_3_method_14_code 179 = .ok (.iload 4, 2) := by decide +kernel
theorem d40_181 : decode prog_3_method_14_code 181 = .ok (.invokevirtual 186, 3) := by decide +kernel
theorem d40_184 : decode prog_3_method_14_code 184 = .ok (.aload_n 0, 1) := by decide +kernel
theorem d40_185 : decode prog_3_method_14_code 185 = .ok (.aload_n 1, 1) := by decide +kernel
theorem d40_186 : decode prog_3_method_14_code 186 = .ok (.iload 5, 2) := by decide +kernel
theorem d40_188 : decode prog_3_method_14_code 188 = .ok (.invokevirtual 186, 3) := by decide +kernel
theorem d40_191 : decode prog_3_method_14_code 191 = .ok (.invokevirtual 32, 3) := by decide +kernel
theorem d40_194 : decode prog_3_method_14_code 194 = .ok (.istore 6, 2) := by decide +kernel
theorem d40_196 : decode prog_3_method_14_code 196 = .ok (.iload 6, 2) := by decide +kernel
theorem d40_198 : decode prog_3_method_14_code 198 = .ok (.ifCond .ge 15, 3) := by decide +kernel
theorem d40_201 : decode prog_3_method_14_code 201 = .ok (.aload_n 0, 1) := by decide +kernel
theorem d40_202 : decode prog_3_method_14_code 202 = .ok (.aload_n 1, 1) := by decide +kernel
theorem d40_203 : decode prog_3_method_14_code 203 = .ok (.getfield 46, 3) := by decide +kernel
theorem d40_206 : decode prog_3_method_14_code 206 = .ok (.iload_n 2, 1) := by decide +kernel
theorem d40_207 : decode prog_3_method_14_code 207 = .ok (.iload 6, 2) := by decide +kernel
theorem d40_209 : decode prog_3_method_14_code 209 = .ok (.invokevirtual 36, 3) := by decide +kernel
theorem d40_212 : decode prog_3_method_14_code 212 = .ok (.ireturn, 1) := by decide +kernel
theorem d40_213 : decode prog_3_method_14_code 213 = .ok (.aload_n 0, 1) := by decide +kernel
theorem d40_214 : decode prog_3_method_14_code 214 = .ok (.getfield 17, 3) := by decide +kernel
theorem d40_217 : decode prog_3_method_14_code 217 = .ok (.iload 6, 2) := by decide +kernel
theorem d40_219 : decode prog_3_method_14_code 219 = .ok (.aaload, 1) := by decide +kernel
theorem d40_220 : decode prog_3_method_14_code 220 = .ok (.astore 7, 2) := by decide +kernel
theorem d40_222 : decode prog_3_method_14_code 222 = .ok (.aload_n 0, 1) := by decide +kernel
theorem d40_223 : decode prog_3_method_14_code 223 = .ok (.aload_n 1, 1) := by decide +kernel
theorem d40_224 : decode prog_3_method_14_code 224 = .ok (.iload_n 2, 1) := by decide +kernel
theorem d40_225 : decode prog_3_method_14_code 225 = .ok (.iload 4, 2) := by decide +kernel
theorem d40_227 : decode prog_3_method_14_code 227 = .ok (.aload 7, 2) := by decide +kernel
theorem d40_229 : decode prog_3_method_14_code 229 = .ok (.getfield 116, 3) := by decide +kernel
theorem d40_232 : decode prog_3_method_14_code 232 = .ok (.iconst 0, 1) := by decide +kernel
theorem d40_233 : decode prog_3_method_14_code 233 = .ok (.iaload, 1) := by decide +kernel
theorem d40_234 : decode prog_3_method_14_code 234 = .ok (.invokevirtual 190, 3) := by decide +kernel
theorem d40_237 : decode prog_3_method_14_code 237 = .ok (.ifCond .eq 21, 3) := by decide +kernel
theorem d40_240 : decode prog_3_method_14_code 240 = .ok (.aload_n 0, 1) := by decide +kernel
theorem d40_241 : decode prog_3_method_14_code 241 = .ok (.aload_n 1, 1) := by decide +kernel
theorem d40_242 : decode prog_3_method_14_code 242 = .ok (.iload_n 2, 1) := by decide +kernel
theorem d40_243 : decode prog_3_method_14_code 243 = .ok (.iload 5, 2) := by decide +kernel
theorem d40_245 : decode prog_3_method_14_code 245 = .ok (.aload 7, 2) := by decide +kernel
theorem d40_247 : decode prog_3_method_14_code 247 = .ok (.getfield 116, 3) := by decide +kernel
theorem d40_250 : decode prog_3_method_14_code 250 = .ok (.iconst 1, 1) := by decide +kernel
theorem d40_251 : decode prog_3_method_14_code 251 = .ok (.iaload, 1) := by decide +kernel
theorem d40_252 : decode prog_3_method_14_code 252 = .ok (.invokevirtual 190, 3) := by decide +kernel
theorem d40_255 : decode prog_3_method_14_code 255 = .ok (.ifCond .ne 5, 3) := by decide +kernel
theorem d40_258 : decode prog_3_method_14_code 258 = .ok (.iconst 0, 1) := by decide +kernel
theorem d40_259 : decode prog_3_method_14_code 259 = .ok (.ireturn, 1) := by decide +kernel
theorem d40_260 : decode prog_3_method_14_code 260 = .ok (.aload_n 1, 1) := by decide +kernel
theorem d40_261 : decode prog_3_method_14_code 261 = .ok (.getfield 193, 3) := by decide +kernel
theorem d40_264 : decode prog_3_method_14_code 264 = .ok (.iload_n 2, 1) := by decide +kernel
theorem d40_265 : decode prog_3_method_14_code 265 = .ok (.iload 6, 2) := by decide +kernel
theorem d40_267 : decode prog_3_method_14_code 267 = .ok (.iastore, 1) := by decide +kernel
theorem d40_268 : decode prog_3_method_14_code 268 = .ok (.aload_n 1, 1) := by decide +kernel
theorem d40_269 : decode prog_3_method_14_code 269 = .ok (.iload_n 2, 1) := by decide +kernel
theorem d40_270 : decode prog_3_method_14_code 270 = .ok (.aload 7, 2) := by decide +kernel
theorem d40_272 : decode prog_3_method_14_code 272 = .ok (.getfield 53, 3) := by decide +kernel
theorem d40_275 : decode prog_3_method_14_code 275 = .ok (.invokevirtual 122, 3) := by decide +kernel
theorem d40_278 : decode prog_3_method_14_code 278 = .ok (.ireturn, 1) := by decide +kernel
theorem d41_0 : decode prog_3_method_15_code 0 = .ok (.iload_n 1, 1) := by decide +kernel
theorem d41_1 : decode prog_3_method_15_code 1 = .ok (.iconst (-1), 1) := by decide +kernel
theorem d41_2 : decode prog_3_method_15_code 2 = .ok (.if_icmp .eq 7, 3) := by decide +kernel
theorem d41_5 : decode prog_3_method_15_code 5 = .ok (.iconst 1, 1) := by decide +kernel
theorem d41_6 : decode prog_3_method_15_code 6 = .ok (.goto 4, 3) := by decide +kernel
theorem d41_9 : decode prog_3_method_15_code 9 = .ok (.iconst 0, 1) := by decide +kernel
theorem d41_10 : decode prog_3_method_15_code 10 = .ok (.iload_n 2, 1) := by decide +kernel
theorem d41_11 : decode prog_3_method_15_code 11 = .ok (.sipush 400, 3) := by decide +kernel
theorem d41_14 : decode prog_3_method_15_code 14 = .ok (.if_icmp .eq 7, 3) := by decide +kernel
theorem d41_17 : decode prog_3_method_15_code 17 = .ok (.iconst 1, 1) := by decide +kernel
theorem d41_18 : decode prog_3_method_15_code 18 = .ok (.goto 4, 3) := by decide +kernel
theorem d41_21 : decode prog_3_method_15_code 21 = .ok (.iconst 0, 1) := by decide +kernel
theorem d41_22 : decode prog_3_method_15_code 22 = .ok (.if_icmp .ne 7, 3) := by decide +kernel
theorem d41_25 : decode prog_3_method_15_code 25 = .ok (.iconst 1, 1) := by decide +kernel
theorem d41_26 : decode prog_3_method_15_code 26 = .ok (.goto 4, 3) := by decide +kernel
theorem d41_29 : decode prog_3_method_15_code 29 = .ok (.iconst 0, 1) := by decide +kernel
theorem d41_30 : decode prog_3_method_15_code 30 = .ok (.ireturn, 1) := by decide +kernel
theorem d42_0 : decode prog_3_method_16_code 0 = .ok (.iload_n 3, 1) := by decide +kernel
theorem d42_1 : decode prog_3_method_16_code 1 = .ok (.sipush 300, 3) := by decide +kernel
theorem d42_4 : decode prog_3_method_16_code 4 = .ok (.if_icmp .ne 20, 3) := by decide +kernel
theorem d42_7 : decode prog_3_method_16_code 7 = .ok (.iload_n 2, 1) := by decide +kernel
theorem d42_8 : decode prog_3_method_16_code 8 = .ok (.iconst (-1), 1) := by decide +kernel
theorem d42_9 : decode prog_3_method_16_code 9 = .ok (.if_icmp .eq 19, 3) := by decide +kernel
theorem d42_12 : decode prog_3_method_16_code 12 = .ok (.aload_n 1, 1) := by decide +kernel
theorem d42_13 : decode prog_3_method_16_code 13 = .ok (.getfield 68, 3) := by decide +kernel
theorem d42_16 : decode prog_3_method_16_code 16 = .ok (.iload_n 2, 1) := by decide +kernel
theorem d42_17 : decode prog_3_method_16_code 17 = .ok (.iaload, 1) := by decide +kernel
theorem d42_18 : decode prog_3_method_16_code 18 = .ok (.sipush 300, 3) := by decide +kernel
theorem d42_21 : decode prog_3_method_16_code 21 = .ok (.if_icmp .ne 7, 3) := by decide +kernel
theorem d42_24 : decode prog_3_method_16_code 24 = .ok (.iconst 1, 1) := by decide +kernel
theorem d42_25 : decode prog_3_method_16_code 25 = .ok (.goto 4, 3) := by decide +kernel
theorem d42_28 : decode prog_3_method_16_code 28 = .ok (.iconst 0, 1) := by decide +kernel
theorem d42_29 : decode prog_3_method_16_code 29 = .ok (.ireturn, 1) := by decide +kernel
theorem d43_0 : decode prog_3_method_17_code 0 = .ok (.iload_n 2, 1) := by decide +kernel
theorem d43_1 : decode prog_3_method_17_code 1 = .ok (.iconst (-1), 1) := by decide +kernel
theorem d43_2 : decode prog_3_method_17_code 2 = .ok (.if_icmp .eq 21, 3) := by decide +kernel
theorem d43_5 : decode prog_3_method_17_code 5 = .ok (.aload_n 1, 1) := by decide +kernel
theorem d43_6 : decode prog_3_method_17_code 6 = .ok (.getfield 144, 3) := by decide +kernel
theorem d43_9 : decode prog_3_method_17_code 9 = .ok (.iload_n 2, 1) := by decide +kernel
theorem d43_10 : decode prog_3_method_17_code 10 = .ok (.baload, 1) := by decide +kernel
theorem d43_11 : decode prog_3_method_17_code 11 = .ok (.ifCond .eq 12, 3) := by decide +kernel
theorem d43_14 : decode prog_3_method_17_code 14 = .ok (.aload_n 1, 1) := by decide +kernel
theorem d43_15 : decode prog_3_method_17_code 15 = .ok (.getfield 77, 3) := by decide +kernel
theorem d43_18 : decode prog_3_method_17_code 18 = .ok (.iload_n 2, 1) := by decide +kernel
theorem d43_19 : decode prog_3_method_17_code 19 = .ok (.laload, 1) := by decide +kernel
theorem d43_20 : decode prog_3_method_17_code 20 = .ok (.goto 4, 3) := by decide +kernel
theorem d43_23 : decode prog_3_method_17_code 23 = .ok (.lconst 0, 1) := by decide +kernel
theorem d43_24 : decode prog_3_method_17_code 24 = .ok (.lreturn, 1) := by decide +kernel
theorem d44_0 : decode prog_3_method_18_code 0 = .ok (.iload_n 3, 1) := by decide +kernel
theorem d44_1 : decode prog_3_method_18_code 1 = .ok (.iconst (-1), 1) := by decide +kernel
theorem d44_2 : decode prog_3_method_18_code 2 = .ok (.if_icmp .eq 15, 3) := by decide +kernel
theorem d44_5 : decode prog_3_method_18_code 5 = .ok (.aload_n 0, 1) := by decide +kernel
theorem d44_6 : decode prog_3_method_18_code 6 = .ok (.aload_n 1, 1) := by decide +kernel
theorem d44_7 : decode prog_3_method_18_code 7 = .ok (.iload_n 2, 1) := by decide +kernel
theorem d44_8 : decode prog_3_method_18_code 8 = .ok (.iload_n 3, 1) := by decide +kernel
theorem d44_9 : decode prog_3_method_18_code 9 = .ok (.iload 4, 2) := by decide +kernel
theorem d44_11 : decode prog_3_method_18_code 11 = .ok (.invokevirtual 56, 3) := by decide +kernel
theorem d44_14 : decode prog_3_method_18_code 14 = .ok (.ifCond .eq 7, 3) := by decide +kernel
theorem d44_17 : decode prog_3_method_18_code 17 = .ok (.iconst 1, 1) := by decide +kernel
theorem d44_18 : decode prog_3_method_18_code 18 = .ok (.goto 4, 3) := by decide +kernel
theorem d44_21 : decode prog_3_method_18_code 21 = .ok (.iconst 0, 1) := by decide +kernel
theorem d44_22 : decode prog_3_method_18_code 22 = .ok (.ireturn, 1) := by decide +kernel
theorem d45_0 : decode prog_3_method_19_code 0 = .ok (.aload_n 0, 1) := by decide +kernel
theorem d45_1 : decode prog_3_method_19_code 1 = .ok (.getfield 9, 3) := by decide +kernel
theorem d45_4 : decode prog_3_method_19_code 4 = .ok (.getfield 91, 3) := by decide +kernel
theorem d45_7 : decode prog_3_method_19_code 7 = .ok (.iload_n 2, 1) := by decide +kernel
theorem d45_8 : decode prog_3_method_19_code 8 = .ok (.iaload, 1) := by decide +kernel
theorem d45_9 : decode prog_3_method_19_code 9 = .ok (.istore_n 3, 1) := by decide +kernel
theorem d45_10 : decode prog_3_method_19_code 10 = .ok (.aload_n 0, 1) := by decide +kernel
theorem d45_11 : decode prog_3_method_19_code 11 = .ok (.aload_n 1, 1) := by decide +kernel
theorem d45_12 : decode prog_3_method_19_code 12 = .ok (.iload_n 3, 1) := by decide +kernel
theorem d45_13 : decode prog_3_method_19_code 13 = .ok (.invokevirtual 49, 3) := by decide +kernel
theorem d45_16 : decode prog_3_method_19_code 16 = .ok (.ifCond .ne 5, 3) := by decide +kernel
theorem d45_19 : decode prog_3_method_19_code 19 = .ok (.iconst 0, 1) := by decide +kernel
theorem d45_20 : decode prog_3_method_19_code 20 = .ok (.ireturn, 1) := by decide +kernel
theorem d45_21 : decode prog_3_method_19_code 21 = .ok (.aload_n 1, 1) := by decide +kernel
theorem d45_22 : decode prog_3_method_19_code 22 = .ok (.getfield 68, 3) := by decide +kernel
theorem d45_25 : decode prog_3_method_19_code 25 = .ok (.iload_n 3, 1) := by decide +kernel
theorem d45_26 : decode prog_3_method_19_code 26 = .ok (.iaload, 1) := by decide +kernel
theorem d45_27 : decode prog_3_method_19_code 27 = .ok (.istore 4, 2) := by decide +kernel
theorem d45_29 : decode prog_3_method_19_code 29 = .ok (.iload 4, 2) := by decide +kernel
theorem d45_31 : decode prog_3_method_19_code 31 = .ok (.invokestatic 73, 3) := by decide +kernel
theorem d45_34 : decode prog_3_method_19_code 34 = .ok (.ifCond .eq 20, 3) := by decide +kernel
theorem d45_37 : decode prog_3_method_19_code 37 = .ok (.aload_n 1, 1) := by decide +kernel
theorem d45_38 : decode prog_3_method_19_code 38 = .ok (.iload_n 2, 1) := by decide +kernel
theorem d45_39 : decode prog_3_method_19_code 39 = .ok (.sipush 300, 3) := by decide +kernel
theorem d45_42 : decode prog_3_method_19_code 42 = .ok (.iload 4, 2) := by decide +kernel
theorem d45_44 : decode prog_3_method_19_code 44 = .ok (.invokestatic 196, 3) := by decide +kernel
theorem d45_47 : decode prog_3_method_19_code 47 = .ok (.i2l, 1) := by decide +kernel
theorem d45_48 : decode prog_3_method_19_code 48 = .ok (.invokevirtual 94, 3) := by decide +kernel
theorem d45_51 : decode prog_3_method_19_code 51 = .ok (.goto 14, 3) := by decide +kernel
theorem d45_54 : decode prog_3_method_19_code 54 = .ok (.aload_n 0, 1) := by decide +kernel
theorem d45_55 : decode prog_3_method_19_code 55 = .ok (.aload_n 1, 1) := by decide +kernel
theorem d45_56 : decode prog_3_method_19_code 56 = .ok (.getfield 46, 3) := by decide +kernel
theorem d45_59 : decode prog_3_method_19_code 59 = .ok (.iload_n 2, 1) := by decide +kernel
theorem d45_60 : decode prog_3_method_19_code 60 = .ok (.bipush (-2), 2) := by decide +kernel
theorem d45_62 : decode prog_3_method_19_code 62 = .ok (.invokevirtual 36, 3) := by decide +kernel
theorem d45_65 : decode prog_3_method_19_code 65 = .ok (.ireturn, 1) := by decide +kernel
theorem d46_0 : decode prog_4_method_2_code 0 = .ok (.aload_n 0, 1) := by decide +kernel
theorem d46_1 : decode prog_4_method_2_code 1 = .ok (.iload_n 2, 1) := by decide +kernel
theorem d46_2 : decode prog_4_method_2_code 2 = .ok (.putfield 32, 3) := by decide +kernel
theorem d46_5 : decode prog_4_method_2_code 5 = .ok (.aload_n 0, 1) := by decide +kernel
theorem d46_6 : decode prog_4_method_2_code 6 = .ok (.getfield 15, 3) := by decide +kernel
theorem d46_9 : decode prog_4_method_2_code 9 = .ok (.iconst 0, 1) := by decide +kernel
theorem d46_10 : decode prog_4_method_2_code 10 = .ok (.lload_n 3, 1) := by decide +kernel
theorem d46_11 : decode prog_4_method_2_code 11 = .ok (.lastore, 1) := by decide +kernel
theorem d46_12 : decode prog_4_method_2_code 12 = .ok (.aload_n 0, 1) := by decide +kernel
theorem d46_13 : decode prog_4_method_2_code 13 = .ok (.getfield 15, 3) := by decide +kernel
theorem d46_16 : decode prog_4_method_2_code 16 = .ok (.iconst 1, 1) := by decide +kernel
theorem d46_17 : decode prog_4_method_2_code 17 = .ok (.lload 5, 2) := by decide +kernel
theorem d46_19 : decode prog_4_method_2_code 19 = .ok (.lastore, 1) := by decide +kernel
theorem d46_20 : decode prog_4_method_2_code 20 = .ok (.iconst 0, 1) := by decide +kernel
theorem d46_21 : decode prog_4_method_2_code 21 = .ok (.istore 7, 2) := by decide +kernel
theorem d46_23 : decode prog_4_method_2_code 23 = .ok (.iload 7, 2) := by decide +kernel
theorem d46_25 : decode prog_4_method_2_code 25 = .ok (.bipush 60, 2) := by decide +kernel
theorem d46_27 : decode prog_4_method_2_code 27 = .ok (.if_icmp .ge 27, 3) := by decide +kernel
theorem d46_30 : decode prog_4_method_2_code 30 = .ok (.aload_n 0, 1) := by decide +kernel
theorem d46_31 : decode prog_4_method_2_code 31 = .ok (.getfield 19, 3) := by decide +kernel
theorem d46_34 : decode prog_4_method_2_code 34 = .ok (.iload 7, 2) := by decide +kernel
theorem d46_36 : decode prog_4_method_2_code 36 = .ok (.sipush 400, 3) := by decide +kernel
theorem d46_39 : decode prog_4_method_2_code 39 = .ok (.iastore, 1) := by decide +kernel
theorem d46_40 : decode prog_4_method_2_code 40 = .ok (.aload_n 0, 1) := by decide +kernel
theorem d46_41 : decode prog_4_method_2_code 41 = .ok (.getfield 22, 3) := by decide +kernel
theorem d46_44 : decode prog_4_method_2_code 44 = .ok (.iload 7, 2) := by decide +kernel
theorem d46_46 : decode prog_4_method_2_code 46 = .ok (.iconst 0, 1) := by decide +kernel
theorem d46_47 : decode prog_4_method_2_code 47 = .ok (.bastore, 1) := by decide +kernel
theorem d46_48 : decode prog_4_method_2_code 48 = .ok (.iinc 7 1, 3) := by decide +kernel
theorem d46_51 : decode prog_4_method_2_code 51 = .ok (.goto (-28), 3) := by decide +kernel
theorem d46_54 : decode prog_4_method_2_code 54 = .ok (.aload_n 0, 1) := by decide +kernel
theorem d46_55 : decode prog_4_method_2_code 55 = .ok (.getfield 9, 3) := by decide +kernel
theorem d46_58 : decode prog_4_method_2_code 58 = .ok (.iconst 0, 1) := by decide +kernel
theorem d46_59 : decode prog_4_method_2_code 59 = .ok (.aload_n 1, 1) := by decide +kernel
theorem d46_60 : decode prog_4_method_2_code 60 = .ok (.getfield 41, 3) := by decide +kernel
theorem d46_63 : decode prog_4_method_2_code 63 = .ok (.iload_n 2, 1) := by decide +kernel
theorem d46_64 : decode prog_4_method_2_code 64 = .ok (.iaload, 1) := by decide +kernel
theorem d46_65 : decode prog_4_method_2_code 65 = .ok (.iastore, 1) := by decide +kernel
theorem d46_66 : decode prog_4_method_2_code 66 = .ok (.aload_n 0, 1) := by decide +kernel
theorem d46_67 : decode prog_4_method_2_code 67 = .ok (.getfield 9, 3) := by decide +kernel
theorem d46_70 : decode prog_4_method_2_code 70 = .ok (.iconst 1, 1) := by decide +kernel
theorem d46_71 : decode prog_4_method_2_code 71 = .ok (.aload_n 1, 1) := by decide +kernel
theorem d46_72 : decode prog_4_method_2_code 72 = .ok (.getfield 46, 3) := by decide +kernel
theorem d46_75 : decode prog_4_method_2_code 75 = .ok (.iload_n 2, 1) := by decide +kernel
theorem d46_76 : decode prog_4_method_2_code 76 = .ok (.iaload, 1) := by decide +kernel
theorem d46_77 : decode prog_4_method_2_code 77 = .ok (.iastore, 1) := by decide +kernel
theorem d46_78 : decode prog_4_method_2_code 78 = .ok (.aload_n 0, 1) := by decide +kernel
theorem d46_79 : decode prog_4_method_2_code 79 = .ok (.getfield 9, 3) := by decide +kernel
theorem d46_82 : decode prog_4_method_2_code 82 = .ok (.iconst 0, 1) := by decide +kernel
theorem d46_83 : decode prog_4_method_2_code 83 = .ok (.aload_n 0, 1) := by decide +kernel
theorem d46_84 : decode prog_4_method_2_code 84 = .ok (.aload_n 0, 1) := by decide +kernel
theorem d46_85 : decode prog_4_method_2_code 85 = .ok (.getfield 9, 3) := by decide +kernel
theorem d46_88 : decode prog_4_method_2_code 88 = .ok (.iconst 0, 1) := by decide +kernel
theorem d46_89 : decode prog_4_method_2_code 89 = .ok (.iaload, 1) := by decide +kernel
theorem d46_90 : decode prog_4_method_2_code 90 = .ok (.invokevirtual 49, 3) := by decide +kernel
theorem d46_93 : decode prog_4_method_2_code 93 = .ok (.iastore, 1) := by decide +kernel
theorem d46_94 : decode prog_4_method_2_code 94 = .ok (.aload_n 0, 1) := by decide +kernel
theorem d46_95 : decode prog_4_method_2_code 95 = .ok (.getfield 9, 3) := by decide +kernel
theorem d46_98 : decode prog_4_method_2_code 98 = .ok (.iconst 1, 1) := by decide +kernel
theorem d46_99 : decode prog_4_method_2_code 99 = .ok (.aload_n 0, 1) := by decide +kernel
theorem d46_100 : decode prog_4_method_2_code 100 = .ok (.aload_n 0, 1) := by decide +kernel
theorem d46_101 : decode prog_4_method_2_code 101 = .ok (.getfield 9, 3) := by decide +kernel
theorem d46_104 : decode prog_4_method_2_code 104 = .ok (.iconst 1, 1) := by decide +kernel
theorem d46_105 : decode prog_4_method_2_code 105 = .ok (.iaload, 1) := by decide +kernel
theorem d46_106 : decode prog_4_method_2_code 106 = .ok (.invokevirtual 49, 3) := by decide +kernel
theorem d46_109 : decode prog_4_method_2_code 109 = .ok (.iastore, 1) := by decide +kernel
theorem d46_110 : decode prog_4_method_2_code 110 = .ok (.aload_n 0, 1) := by decide +kernel
theorem d46_111 : decode prog_4_method_2_code 111 = .ok (.aload_n 0, 1) := by decide +kernel
theorem d46_112 : decode prog_4_method_2_code 112 = .ok (.aload_n 1, 1) := by decide +kernel
theorem d46_113 : decode prog_4_method_2_code 113 = .ok (.getfield 53, 3) := by decide +kernel
theorem d46_116 : decode prog_4_method_2_code 116 = .ok (.iload_n 2, 1) := by decide +kernel
theorem d46_117 : decode prog_4_method_2_code 117 = .ok (.iaload, 1) := by decide +kernel
theorem d46_118 : decode prog_4_method_2_code 118 = .ok (.invokevirtual 49, 3) := by decide +kernel
theorem d46_121 : decode prog_4_method_2_code 121 = .ok (.putfield 38, 3) := by decide +kernel
theorem d46_124 : decode prog_4_method_2_code 124 = .ok (.aload_n 0, 1) := by decide +kernel
theorem d46_125 : decode prog_4_method_2_code 125 = .ok (.getfield 9, 3) := by decide +kernel
theorem d46_128 : decode prog_4_method_2_code 128 = .ok (.iconst 0, 1) := by decide +kernel
theorem d46_129 : decode prog_4_method_2_code 129 = .ok (.iaload, 1) := by decide +kernel
theorem d46_130 : decode prog_4_method_2_code 130 = .ok (.sipush 500, 3) := by decide +kernel
theorem d46_133 : decode prog_4_method_2_code 133 = .ok (.if_icmp .eq 29, 3) := by decide +kernel
theorem d46_136 : decode prog_4_method_2_code 136 = .ok (.aload_n 0, 1) := by decide +kernel
theorem d46_137 : decode prog_4_method_2_code 137 = .ok (.getfield 9, 3) := by decide +kernel
theorem d46_140 : decode prog_4_method_2_code 140 = .ok (.iconst 1, 1) := by decide +kernel
theorem d46_141 : decode prog_4_method_2_code 141 = .ok (.iaload, 1) := by decide +kernel
theorem d46_142 : decode prog_4_method_2_code 142 = .ok (.sipush 500, 3) := by decide +kernel
theorem d46_145 : decode prog_4_method_2_code 145 = .ok (.if_icmp .eq 17, 3) := by decide +kernel
theorem d46_148 : decode prog_4_method_2_code 148 = .ok (.aload_n 0, 1) := by decide +kernel
theorem d46_149 : decode prog_4_method_2_code 149 = .ok (.getfield 38, 3) := by decide +kernel
theorem d46_152 : decode prog_4_method_2_code 152 = .ok (.sipush 500, 3) := by decide +kernel
theorem d46_155 : decode prog_4_method_2_code 155 = .ok (.if_icmp .eq 7, 3) := by decide +kernel
theorem d46_158 : decode prog_4_method_2_code 158 = .ok (.iconst 1, 1) := by decide +kernel
theorem d46_159 : decode prog_4_method_2_code 159 = .ok (.goto 4, 3) := by decide +kernel
theorem d46_162 : decode prog_4_method_2_code 162 = .ok (.iconst 0, 1) := by decide +kernel
theorem d46_163 : decode prog_4_method_2_code 163 = .ok (.ireturn, 1) := by decide +kernel
theorem d47_0 : decode prog_4_method_3_code 0 = .ok (.iload_n 1, 1) := by decide +kernel
theorem d47_1 : decode prog_4_method_3_code 1 = .ok (.invokestatic 56, 3) := by decide +kernel
theorem d47_4 : decode prog_4_method_3_code 4 = .ok (.ifCond .ne 5, 3) := by decide +kernel
theorem d47_7 : decode prog_4_method_3_code 7 = .ok (.iload_n 1, 1) := by decide +kernel
theorem d47_8 : decode prog_4_method_3_code 8 = .ok (.ireturn, 1) := by decide +kernel
theorem d47_9 : decode prog_4_method_3_code 9 = .ok (.iload_n 1, 1) := by decide +kernel
theorem d47_10 : decode prog_4_method_3_code 10 = .ok (.sipush 200, 3) := by decide +kernel
theorem d47_13 : decode prog_4_method_3_code 13 = .ok (.if_icmp .ge 7, 3) := by decide +kernel
theorem d47_16 : decode prog_4_method_3_code 16 = .ok (.iconst 1, 1) := by decide +kernel
theorem d47_17 : decode prog_4_method_3_code 17 = .ok (.goto 4, 3) := by decide +kernel
theorem d47_20 : decode prog_4_method_3_code 20 = .ok (.iconst 0, 1) := by decide +kernel
theorem d47_21 : decode prog_4_method_3_code 21 = .ok (.istore_n 2, 1) := by decide +kernel
theorem d47_22 : decode prog_4_method_3_code 22 = .ok (.iload_n 1, 1) := by decide +kernel
theorem d47_23 : decode prog_4_method_3_code 23 = .ok (.iload_n 2, 1) := by decide +kernel
theorem d47_24 : decode prog_4_method_3_code 24 = .ok (.ifCond .eq 8, 3) := by decide +kernel
theorem d47_27 : decode prog_4_method_3_code 27 = .ok (.bipush 100, 2) := by decide +kernel
theorem d47_29 : decode prog_4_method_3_code 29 = .ok (.goto 6, 3) := by decide +kernel
theorem d47_32 : decode prog_4_method_3_code 32 = .ok (.sipush 200, 3) := by decide +kernel
theorem d47_35 : decode prog_4_method_3_code 35 = .ok (.isub, 1) := by decide +kernel
theorem d47_36 : decode prog_4_method_3_code 36 = .ok (.istore_n 3, 1) := by decide +kernel
theorem d47_37 : decode prog_4_method_3_code 37 = .ok (.aload_n 0, 1) := by decide +kernel
theorem d47_38 : decode prog_4_method_3_code 38 = .ok (.getfield 9, 3) := by decide +kernel
theorem d47_41 : decode prog_4_method_3_code 41 = .ok (.iload_n 3, 1) := by decide +kernel
theorem d47_42 : decode prog_4_method_3_code 42 = .ok (.iaload, 1) := by decide +kernel
theorem d47_43 : decode prog_4_method_3_code 43 = .ok (.sipush 300, 3) := by decide +kernel
theorem d47_46 : decode prog_4_method_3_code 46 = .ok (.if_icmp .ne 27, 3) := by decide +kernel
theorem d47_49 : decode prog_4_method_3_code 49 = .ok (.aload_n 0, 1) := by decide +kernel
theorem d47_50 : decode prog_4_method_3_code 50 = .ok (.getfield 15, 3) := by decide +kernel
theorem d47_53 : decode prog_4_method_3_code 53 = .ok (.iload_n 3, 1) := by decide +kernel
theorem d47_54 : decode prog_4_method_3_code 54 = .ok (.laload, 1) := by decide +kernel
theorem d47_55 : decode prog_4_method_3_code 55 = .ok (.lconst 1, 1) := by decide +kernel
theorem d47_56 : decode prog_4_method_3_code 56 = .ok (.lcmp, 1) := by decide +kernel
theorem d47_57 : decode prog_4_method_3_code 57 = .ok (.ifCond .lt 16, 3) := by decide +kernel
theorem d47_60 : decode prog_4_method_3_code 60 = .ok (.aload_n 0, 1) := by decide +kernel
theorem d47_61 : decode prog_4_method_3_code 61 = .ok (.getfield 15, 3) := by decide +kernel
theorem d47_64 : decode prog_4_method_3_code 64 = .ok (.iload_n 3, 1) := by decide +kernel
theorem d47_65 : decode prog_4_method_3_code 65 = .ok (.laload, 1) := by decide +kernel
theorem d47_66 : decode prog_4_method_3_code 66 = .ok (.ldc2_w 60, 3) := by decide +kernel
theorem d47_69 : decode prog_4_method_3_code 69 = .ok (.lcmp, 1) := by decide +kernel
theorem d47_70 : decode prog_4_method_3_code 70 = .ok (.ifCond .le 7, 3) := by decide +kernel
theorem d47_73 : decode prog_4_method_3_code 73 = .ok (.sipush 500, 3) := by decide +kernel
theorem d47_76 : decode prog_4_method_3_code 76 = .ok (.ireturn, 1) := by decide +kernel
theorem d47_77 : decode prog_4_method_3_code 77 = .ok (.iload_n 2, 1) := by decide +kernel
theorem d47_78 : decode prog_4_method_3_code 78 = .ok (.ifCond .eq 13, 3) := by decide +kernel
theorem d47_81 : decode prog_4_method_3_code 81 = .ok (.aload_n 0, 1) := by decide +kernel
theorem d47_82 : decode prog_4_method_3_code 82 = .ok (.getfield 15, 3) := by decide +kernel
theorem d47_85 : decode prog_4_method_3_code 85 = .ok (.iload_n 3, 1) := by decide +kernel
theorem d47_86 : decode prog_4_method_3_code 86 = .ok (.laload, 1) := by decide +kernel
theorem d47_87 : decode prog_4_method_3_code 87 = .ok (.l2i, 1) := by decide +kernel
theorem d47_88 : decode prog_4_method_3_code 88 = .ok (.goto 11, 3) := by decide +kernel
theorem d47_91 : decode prog_4_method_3_code 91 = .ok (.aload_n 0, 1) := by decide +kernel
theorem d47_92 : decode prog_4_method_3_code 92 = .ok (.getfield 15, 3) := by decide +kernel
theorem d47_95 : decode prog_4_method_3_code 95 = .ok (.iload_n 3, 1) := by decide +kernel
theorem d47_96 : decode prog_4_method_3_code 96 = .ok (.laload, 1) := by decide +kernel
theorem d47_97 : decode prog_4_method_3_code 97 = .ok (.l2i, 1) := by decide +kernel
theorem d47_98 : decode prog_4_method_3_code 98 = .ok (.ineg, 1) := by decide +kernel
theorem d47_99 : decode prog_4_method_3_code 99 = .ok (.ireturn, 1) := by decide +kernel
theorem d48_0 : decode prog_4_method_4_code 0 = .ok (.aload_n 0, 1) := by decide +kernel
theorem d48_1 : decode prog_4_method_4_code 1 = .ok (.getfield 32, 3) := by decide +kernel
theorem d48_4 : decode prog_4_method_4_code 4 = .ok (.iload_n 1, 1) := by decide +kernel
theorem d48_5 : decode prog_4_method_4_code 5 = .ok (.if_icmp .ne 26, 3) := by decide +kernel
theorem d48_8 : decode prog_4_method_4_code 8 = .ok (.aload_n 0, 1) := by decide +kernel
theorem d48_9 : decode prog_4_method_4_code 9 = .ok (.iconst 0, 1) := by decide +kernel
theorem d48_10 : decode prog_4_method_4_code 10 = .ok (.lload_n 2, 1) := by decide +kernel
theorem d48_11 : decode prog_4_method_4_code 11 = .ok (.invokevirtual 62, 3) := by decide +kernel
theorem d48_14 : decode prog_4_method_4_code 14 = .ok (.ifCond .eq 17, 3) := by decide +kernel
theorem d48_17 : decode prog_4_method_4_code 17 = .ok (.aload_n 0, 1) := by decide +kernel
theorem d48_18 : decode prog_4_method_4_code 18 = .ok (.iconst 1, 1) := by decide +kernel
theorem d48_19 : decode prog_4_method_4_code 19 = .ok (.lload 4, 2) := by decide +kernel
theorem d48_21 : decode prog_4_method_4_code 21 = .ok (.invokevirtual 62, 3) := by decide +kernel
theorem d48_24 : decode prog_4_method_4_code 24 = .ok (.ifCond .eq 7, 3) := by decide +kernel
theorem d48_27 : decode prog_4_method_4_code 27 = .ok (.iconst 1, 1) := by decide +kernel
theorem d48_28 : decode prog_4_method_4_code 28 = .ok (.goto 4, 3) := by decide +kernel
theorem d48_31 : decode prog_4_method_4_code 31 = .ok (.iconst 0, 1) := by decide +kernel
theorem d48_32 : decode prog_4_method_4_code 32 = .ok (.ireturn, 1) := by decide +kernel
theorem d49_0 : decode prog_4_method_5_code 0 = .ok (.aload_n 0, 1) := by decide +kernel
theorem d49_1 : decode prog_4_method_5_code 1 = .ok (.getfield 9, 3) := by decide +kernel
theorem d49_4 : decode prog_4_method_5_code 4 = .ok (.iload_n 1, 1) := by decide +kernel
theorem d49_5 : decode prog_4_method_5_code 5 = .ok (.iaload, 1) := by decide +kernel
theorem d49_6 : decode prog_4_method_5_code 6 = .ok (.sipush 300, 3) := by decide +kernel
theorem d49_9 : decode prog_4_method_5_code 9 = .ok (.if_icmp .ne 14, 3) := by decide +kernel
theorem d49_12 : decode prog_4_method_5_code 12 = .ok (.aload_n 0, 1) := by decide +kernel
theorem d49_13 : decode prog_4_method_5_code 13 = .ok (.getfield 15, 3) := by decide +kernel
theorem d49_16 : decode prog_4_method_5_code 16 = .ok (.iload_n 1, 1) := by decide +kernel
theorem d49_17 : decode prog_4_method_5_code 17 = .ok (.laload, 1) := by decide +kernel
theorem d49_18 : decode prog_4_method_5_code 18 = .ok (.lload_n 2, 1) := by decide +kernel
theorem d49_19 : decode prog_4_method_5_code 19 = .ok (.lcmp, 1) := by decide +kernel
theorem d49_20 : decode prog_4_method_5_code 20 = .ok (.ifCond .ne 7, 3) := by decide +kernel
theorem d49_23 : decode prog_4_method_5_code 23 = .ok (.iconst 1, 1) := by decide +kernel
theorem d49_24 : decode prog_4_method_5_code 24 = .ok (.goto 4, 3) := by decide +kernel
theorem d49_27 : decode prog_4_method_5_code 27 = .ok (.iconst 0, 1) := by decide +kernel
theorem d49_28 : decode prog_4_method_5_code 28 = .ok (.ireturn, 1) := by decide +kernel
theorem d50_0 : decode prog_4_method_6_code 0 = .ok (.aload_n 0, 1) := by decide +kernel
theorem d50_1 : decode prog_4_method_6_code 1 = .ok (.getfield 9, 3) := by decide +kernel
theorem d50_4 : decode prog_4_method_6_code 4 = .ok (.iload_n 1, 1) := by decide +kernel
theorem d50_5 : decode prog_4_method_6_code 5 = .ok (.iaload, 1) := by decide +kernel
theorem d50_6 : decode prog_4_method_6_code 6 = .ok (.sipush 300, 3) := by decide +kernel
theorem d50_9 : decode prog_4_method_6_code 9 = .ok (.if_icmp .eq 19, 3) := by decide +kernel
theorem d50_12 : decode prog_4_method_6_code 12 = .ok (.aload_n 0, 1) := by decide +kernel
theorem d50_13 : decode prog_4_method_6_code 13 = .ok (.getfield 9, 3) := by decide +kernel
theorem d50_16 : decode prog_4_method_6_code 16 = .ok (.iload_n 1, 1) := by decide +kernel
theorem d50_17 : decode prog_4_method_6_code 17 = .ok (.iaload, 1) := by decide +kernel
theorem d50_18 : decode prog_4_method_6_code 18 = .ok (.sipush 400, 3) := by decide +kernel
theorem d50_21 : decode prog_4_method_6_code 21 = .ok (.if_icmp .eq 7, 3) := by decide +kernel
theorem d50_24 : decode prog_4_method_6_code 24 = .ok (.iconst 1, 1) := by decide +kernel
theorem d50_25 : decode prog_4_method_6_code 25 = .ok (.goto 4, 3) := by decide +kernel
theorem d50_28 : decode prog_4_method_6_code 28 = .ok (.iconst 0, 1) := by decide +kernel
theorem d50_29 : decode prog_4_method_6_code 29 = .ok (.ireturn, 1) := by decide +kernel
theorem d51_0 : decode prog_4_method_7_code 0 = .ok (.aload_n 0, 1) := by decide +kernel
theorem d51_1 : decode prog_4_method_7_code 1 = .ok (.iload_n 1, 1) := by decide +kernel
theorem d51_2 : decode prog_4_method_7_code 2 = .ok (.invokevirtual 66, 3) := by decide +kernel
theorem d51_5 : decode prog_4_method_7_code 5 = .ok (.ifCond .eq 16, 3) := by decide +kernel
theorem d51_8 : decode prog_4_method_7_code 8 = .ok (.aload_n 0, 1) := by decide +kernel
theorem d51_9 : decode prog_4_method_7_code 9 = .ok (.getfield 9, 3) := by decide +kernel
theorem d51_12 : decode prog_4_method_7_code 12 = .ok (.iload_n 1, 1) := by decide +kernel
theorem d51_13 : decode prog_4_method_7_code 13 = .ok (.iaload, 1) := by decide +kernel
theorem d51_14 : decode prog_4_method_7_code 14 = .ok (.lload_n 2, 1) := by decide +kernel
theorem d51_15 : decode prog_4_method_7_code 15 = .ok (.invokestatic 69, 3) := by decide +kernel
theorem d51_18 : decode prog_4_method_7_code 18 = .ok (.ifCond .eq 7, 3) := by decide +kernel
theorem d51_21 : decode prog_4_method_7_code 21 = .ok (.iconst 1, 1) := by decide +kernel
theorem d51_22 : decode prog_4_method_7_code 22 = .ok (.goto 4, 3) := by decide +kernel
theorem d51_25 : decode prog_4_method_7_code 25 = .ok (.iconst 0, 1) := by decide +kernel
theorem d51_26 : decode prog_4_method_7_code 26 = .ok (.ireturn, 1) := by decide +kernel
theorem d52_0 : decode prog_4_method_8_code 0 = .ok (.aload_n 0, 1) := by decide +kernel
theorem d52_1 : decode prog_4_method_8_code 1 = .ok (.getfield 19, 3) := by decide +kernel
theorem d52_4 : decode prog_4_method_8_code 4 = .ok (.iload_n 1, 1) := by decide +kernel
theorem d52_5 : decode prog_4_method_8_code 5 = .ok (.iaload, 1) := by decide +kernel
theorem d52_6 : decode prog_4_method_8_code 6 = .ok (.sipush 400, 3) := by decide +kernel
theorem d52_9 : decode prog_4_method_8_code 9 = .ok (.if_icmp .eq 7, 3) := by decide +kernel
theorem d52_12 : decode prog_4_method_8_code 12 = .ok (.iconst 1, 1) := by decide +kernel
theorem d52_13 : decode prog_4_method_8_code 13 = .ok (.goto 4, 3) := by decide +kernel
theorem d52_16 : decode prog_4_method_8_code 16 = .ok (.iconst 0, 1) := by decide +kernel
theorem d52_17 : decode prog_4_method_8_code 17 = .ok (.ireturn, 1) := by decide +kernel
theorem d53_0 : decode prog_4_method_9_code 0 = .ok (.aload_n 0, 1) := by decide +kernel
theorem d53_1 : decode prog_4_method_9_code 1 = .ok (.getfield 19, 3) := by decide +kernel
theorem d53_4 : decode prog_4_method_9_code 4 = .ok (.iload_n 1, 1) := by decide +kernel
theorem d53_5 : decode prog_4_method_9_code 5 = .ok (.iload_n 2, 1) := by decide +kernel
theorem d53_6 : decode prog_4_method_9_code 6 = .ok (.iastore, 1) := by decide +kernel
theorem d53_7 : decode prog_4_method_9_code 7 = .ok (.iconst 1, 1) := by decide +kernel
theorem d53_8 : decode prog_4_method_9_code 8 = .ok (.ireturn, 1) := by decide +kernel
theorem d54_0 : decode prog_4_method_10_code 0 = .ok (.aload_n 0, 1) := by decide +kernel
theorem d54_1 : decode prog_4_method_10_code 1 = .ok (.getfield 19, 3) := by decide +kernel
theorem d54_4 : decode prog_4_method_10_code 4 = .ok (.iload_n 1, 1) := by decide +kernel
theorem d54_5 : decode prog_4_method_10_code 5 = .ok (.iload_n 2, 1) := by decide +kernel
theorem d54_6 : decode prog_4_method_10_code 6 = .ok (.iastore, 1) := by decide +kernel
theorem d54_7 : decode prog_4_method_10_code 7 = .ok (.aload_n 0, 1) := by decide +kernel
theorem d54_8 : decode prog_4_method_10_code 8 = .ok (.getfield 22, 3) := by decide +kernel
theorem d54_11 : decode prog_4_method_10_code 11 = .ok (.iload_n 1, 1) := by decide +kernel
theorem d54_12 : decode prog_4_method_10_code 12 = .ok (.iconst 1, 1) := by decide +kernel
theorem d54_13 : decode prog_4_method_10_code 13 = .ok (.bastore, 1) := by decide +kernel
theorem d54_14 : decode prog_4_method_10_code 14 = .ok (.aload_n 0, 1) := by decide +kernel
theorem d54_15 : decode prog_4_method_10_code 15 = .ok (.getfield 26, 3) := by decide +kernel
theorem d54_18 : decode prog_4_method_10_code 18 = .ok (.iload_n 1, 1) := by decide +kernel
theorem d54_19 : decode prog_4_method_10_code 19 = .ok (.lload_n 3, 1) := by decide +kernel
theorem d54_20 : decode prog_4_method_10_code 20 = .ok (.lastore, 1) := by decide +kernel
theorem d54_21 : decode prog_4_method_10_code 21 = .ok (.iconst 1, 1) := by decide +kernel
theorem d54_22 : decode prog_4_method_10_code 22 = .ok (.ireturn, 1) := by decide +kernel
theorem d55_0 : decode prog_4_method_11_code 0 = .ok (.aload_n 0, 1) := by decide +kernel
theorem d55_1 : decode prog_4_method_11_code 1 = .ok (.getfield 19, 3) := by decide +kernel
theorem d55_4 : decode prog_4_method_11_code 4 = .ok (.iload_n 1, 1) := by decide +kernel
theorem d55_5 : decode prog_4_method_11_code 5 = .ok (.aload_n 0, 1) := by decide +kernel
theorem d55_6 : decode prog_4_method_11_code 6 = .ok (.getfield 19, 3) := by decide +kernel
theorem d55_9 : decode prog_4_method_11_code 9 = .ok (.iload_n 2, 1) := by decide +kernel
theorem d55_10 : decode prog_4_method_11_code 10 = .ok (.iaload, 1) := by decide +kernel
theorem d55_11 : decode prog_4_method_11_code 11 = .ok (.iastore, 1) := by decide +kernel
theorem d55_12 : decode prog_4_method_11_code 12 = .ok (.aload_n 0, 1) := by decide +kernel
theorem d55_13 : decode prog_4_method_11_code 13 = .ok (.getfield 22, 3) := by decide +kernel
theorem d55_16 : decode prog_4_method_11_code 16 = .ok (.iload_n 1, 1) := by decide +kernel
theorem d55_17 : decode prog_4_method_11_code 17 = .ok (.aload_n 0, 1) := by decide +kernel
theorem d55_18 : decode prog_4_method_11_code 18 = .ok (.getfield 22, 3) := by decide +kernel
theorem d55_21 : decode prog_4_method_11_code 21 = .ok (.iload_n 2, 1) := by decide +kernel
theorem d55_22 : decode prog_4_method_11_code 22 = .ok (.baload, 1) := by decide +kernel
theorem d55_23 : decode prog_4_method_11_code 23 = .ok (.bastore, 1) := by decide +kernel
theorem d55_24 : decode prog_4_method_11_code 24 = .ok (.aload_n 0, 1) := by decide +kernel
theorem d55_25 : decode prog_4_method_11_code 25 = .ok (.getfield 26, 3) := by decide +kernel
theorem d55_28 : decode prog_4_method_11_code 28 = .ok (.iload_n 1, 1) := by decide +kernel
theorem d55_29 : decode prog_4_method_11_code 29 = .ok (.aload_n 0, 1) := by decide +kernel
theorem d55_30 : decode prog_4_method_11_code 30 = .ok (.getfield 26, 3) := by decide +kernel
theorem d55_33 : decode prog_4_method_11_code 33 = .ok (.iload_n 2, 1) := by decide +kernel
theorem d55_34 : decode prog_4_method_11_code 34 = .ok (.laload, 1) := by decide +kernel
theorem d55_35 : decode prog_4_method_11_code 35 = .ok (.lastore, 1) := by decide +kernel
theorem d55_36 : decode prog_4_method_11_code 36 = .ok (.iconst 1, 1) := by decide +kernel
theorem d55_37 : decode prog_4_method_11_code 37 = .ok (.ireturn, 1) := by decide +kernel
theorem d56_0 : decode prog_6_method_2_code 0 = .ok (.aload_n 0, 1) := by decide +kernel
theorem d56_1 : decode prog_6_method_2_code 1 = .ok (.iconst 0, 1) := by decide +kernel
theorem d56_2 : decode prog_6_method_2_code 2 = .ok (.putfield 19, 3) := by decide +kernel
theorem d56_5 : decode prog_6_method_2_code 5 = .ok (.aload_n 0, 1) := by decide +kernel
theorem d56_6 : decode prog_6_method_2_code 6 = .ok (.iconst 0, 1) := by decide +kernel
theorem d56_7 : decode prog_6_method_2_code 7 = .ok (.putfield 23, 3) := by decide +kernel
theorem d56_10 : decode prog_6_method_2_code 10 = .ok (.aload_n 0, 1) := by decide +kernel
theorem d56_11 : decode prog_6_method_2_code 11 = .ok (.aload_n 1, 1) := by decide +kernel
theorem d56_12 : decode prog_6_method_2_code 12 = .ok (.aload_n 0, 1) := by decide +kernel
theorem d56_13 : decode prog_6_method_2_code 13 = .ok (.getfield 9, 3) := by decide +kernel
theorem d56_16 : decode prog_6_method_2_code 16 = .ok (.getfield 26, 3) := by decide +kernel
theorem d56_19 : decode prog_6_method_2_code 19 = .ok (.aload_n 1, 1) := by decide +kernel
theorem d56_20 : decode prog_6_method_2_code 20 = .ok (.getfield 32, 3) := by decide +kernel
theorem d56_23 : decode prog_6_method_2_code 23 = .ok (.iaload, 1) := by decide +kernel
theorem d56_24 : decode prog_6_method_2_code 24 = .ok (.lload_n 2, 1) := by decide +kernel
theorem d56_25 : decode prog_6_method_2_code 25 = .ok (.lload 4, 2) := by decide +kernel
theorem d56_27 : decode prog_6_method_2_code 27 = .ok (.iconst 0, 1) := by decide +kernel
theorem d56_28 : decode prog_6_method_2_code 28 = .ok (.invokevirtual 37, 3) := by decide +kernel
theorem d56_31 : decode prog_6_method_2_code 31 = .ok (.lreturn, 1) := by decide +kernel
theorem d57_0 : decode prog_6_method_3_code 0 = .ok (.aload_n 0, 1) := by decide +kernel
theorem d57_1 : decode prog_6_method_3_code 1 = .ok (.getfield 19, 3) := by decide +kernel
theorem d57_4 : decode prog_6_method_3_code 4 = .ok (.sipush 3000, 3) := by decide +kernel
theorem d57_7 : decode prog_6_method_3_code 7 = .ok (.if_icmp .lt 7, 3) := by decide +kernel
theorem d57_10 : decode prog_6_method_3_code 10 = .ok (.ldc2_w 41, 3) := by decide +kernel
theorem d57_13 : decode prog_6_method_3_code 13 = .ok (.lreturn, 1) := by decide +kernel
theorem d57_14 : decode prog_6_method_3_code 14 = .ok (.aload_n 0, 1) := by decide +kernel
theorem d57_15 : decode prog_6_method_3_code 15 = .ok (.dup, 1) := by decide +kernel
theorem d57_16 : decode prog_6_method_3_code 16 = .ok (.getfield 19, 3) := by decide +kernel
theorem d57_19 : decode prog_6_method_3_code 19 = .ok (.iconst 1, 1) := by decide +kernel
theorem d57_20 : decode prog_6_method_3_code 20 = .ok (.iadd, 1) := by decide +kernel
theorem d57_21 : decode prog_6_method_3_code 21 = .ok (.putfield 19, 3) := by decide +kernel
theorem d57_24 : decode prog_6_method_3_code 24 = .ok (.aload_n 1, 1) := by decide +kernel
theorem d57_25 : decode prog_6_method_3_code 25 = .ok (.getfield 43, 3) := by decide +kernel
theorem d57_28 : decode prog_6_method_3_code 28 = .ok (.iload_n 2, 1) := by decide +kernel
theorem d57_29 : decode prog_6_method_3_code 29 = .ok (.baload, 1) := by decide +kernel
theorem d57_30 : decode prog_6_method_3_code 30 = .ok (.ifCond .eq 10, 3) := by decide +kernel
theorem d57_33 : decode prog_6_method_3_code 33 = .ok (.aload_n 1, 1) := by decide +kernel
theorem d57_34 : decode prog_6_method_3_code 34 = .ok (.getfield 47, 3) := by decide +kernel
theorem d57_37 : decode prog_6_method_3_code 37 = .ok (.iload_n 2, 1) := by decide +kernel
theorem d57_38 : decode prog_6_method_3_code 38 = .ok (.laload, 1) := by decide +kernel
theorem d57_39 : decode prog_6_method_3_code 39 = .ok (.lreturn, 1) := by decide +kernel
theorem d57_40 : decode prog_6_method_3_code 40 = .ok (.aload_n 0, 1) := by decide +kernel
theorem d57_41 : decode prog_6_method_3_code 41 = .ok (.getfield 9, 3) := by decide +kernel
theorem d57_44 : decode prog_6_method_3_code 44 = .ok (.getfield 51, 3) := by decide +kernel
theorem d57_47 : decode prog_6_method_3_code 47 = .ok (.iload_n 2, 1) := by decide +kernel
theorem d57_48 : decode prog_6_method_3_code 48 = .ok (.iaload, 1) := by decide +kernel
theorem d57_49 : decode prog_6_method_3_code 49 = .ok (.lookupswitch 98 #[(1, 43), (13, 62), (14, 74), (15, 86)], 43) := by decide +kernel
theorem tk57_49 : mm_lk #[(1, 43), (13, 62), (14, 74), (15, 86)] := by unfold mm_lk; decide +kernel
theorem d57_92 : decode prog_6_method_3_code 92 = .ok (.aload_n 0, 1) := by decide +kernel
theorem d57_93 : decode prog_6_method_3_code 93 = .ok (.getfield 9, 3) := by decide +kernel
theorem d57_96 : decode prog_6_method_3_code 96 = .ok (.getfield 54, 3) := by decide +kernel
theorem d57_99 : decode prog_6_method_3_code 99 = .ok (.iload_n 2, 1) := by decide +kernel
theorem d57_100 : decode prog_6_method_3_code 100 = .ok (.iaload, 1) := by decide +kernel
theorem d57_101 : decode prog_6_method_3_code 101 = .ok (.ifCond .ne 7, 3) := by decide +kernel
theorem d57_104 : decode prog_6_method_3_code 104 = .ok (.lload_n 3, 1) := by decide +kernel
theorem d57_105 : decode prog_6_method_3_code 105 = .ok (.goto 5, 3) := by decide +kernel
theorem d57_108 : decode prog_6_method_3_code 108 = .ok (.lload 5, 2) := by decide +kernel
theorem d57_110 : decode prog_6_method_3_code 110 = .ok (.lreturn, 1) := by decide +kernel
theorem d57_111 : decode prog_6_method_3_code 111 = .ok (.aload_n 0, 1) := by decide +kernel
theorem d57_112 : decode prog_6_method_3_code 112 = .ok (.aload_n 1, 1) := by decide +kernel
theorem d57_113 : decode prog_6_method_3_code 113 = .ok (.iload_n 2, 1) := by decide +kernel
theorem d57_114 : decode prog_6_method_3_code 114 = .ok (.lload_n 3, 1) := by decide +kernel
theorem d57_115 : decode prog_6_method_3_code 115 = .ok (.lload 5, 2) := by decide +kernel
theorem d57_117 : decode prog_6_method_3_code 117 = .ok (.iload 7, 2) := by decide +kernel
theorem d57_119 : decode prog_6_method_3_code 119 = .ok (.invokevirtual 57, 3) := by decide +kernel
theorem d57_122 : decode prog_6_method_3_code 122 = .ok (.lreturn, 1) := by decide +kernel
theorem d57_123 : decode prog_6_method_3_code 123 = .ok (.aload_n 0, 1) := by decide +kernel
theorem d57_124 : decode prog_6_method_3_code 124 = .ok (.aload_n 1, 1) := by decide +kernel
theorem d57_125 : decode prog_6_method_3_code 125 = .ok (.iload_n 2, 1) := by decide +kernel
theorem d57_126 : decode prog_6_method_3_code 126 = .ok (.lload_n 3, 1) := by decide +kernel
theorem d57_127 : decode prog_6_method_3_code 127 = .ok (.lload 5, 2) := by decide +kernel
theorem d57_129 : decode prog_6_method_3_code 129 = .ok (.iload 7, 2) := by decide +kernel
theorem d57_131 : decode prog_6_method_3_code 131 = .ok (.invokevirtual 60, 3) := by decide +kernel
theorem d57_134 : decode prog_6_method_3_code 134 = .ok (.lreturn, 1) := by decide +kernel
theorem d57_135 : decode prog_6_method_3_code 135 = .ok (.aload_n 0, 1) := by decide +kernel
theorem d57_136 : decode prog_6_method_3_code 136 = .ok (.aload_n 1, 1) := by decide +kernel
theorem d57_137 : decode prog_6_method_3_code 137 = .ok (.iload_n 2, 1) := by decide +kernel
theorem d57_138 : decode prog_6_method_3_code 138 = .ok (.lload_n 3, 1) := by decide +kernel
theorem d57_139 : decode prog_6_method_3_code 139 = .ok (.lload 5, 2) := by decide +kernel
theorem d57_141 : decode prog_6_method_3_code 141 = .ok (.iload 7, 2) := by decide +kernel
theorem d57_143 : decode prog_6_method_3_code 143 = .ok (.invokevirtual 63, 3) := by decide +kernel
theorem d57_146 : decode prog_6_method_3_code 146 = .ok (.lreturn, 1) := by decide +kernel
theorem d57_147 : decode prog_6_method_3_code 147 = .ok (.aload_n 0, 1) := by decide +kernel
theorem d57_148 : decode prog_6_method_3_code 148 = .ok (.aload_n 1, 1) := by decide +kernel
theorem d57_149 : decode prog_6_method_3_code 149 = .ok (.iload_n 2, 1) := by decide +kernel
theorem d57_150 : decode prog_6_method_3_code 150 = .ok (.lload_n 3, 1) := by decide +kernel
theorem d57_151 : decode prog_6_method_3_code 151 = .ok (.lload 5, 2) := by decide +kernel
theorem d57_153 : decode prog_6_method_3_code 153 = .ok (.iload 7, 2) := by decide +kernel
theorem d57_155 : decode prog_6_method_3_code 155 = .ok (.invokevirtual 66, 3) := by decide +kernel
theorem d57_158 : decode prog_6_method_3_code 158 = .ok (.lreturn, 1) := by decide +kernel
theorem d58_0 : decode prog_6_method_4_code 0 = .ok (.aload_n 0, 1) := by decide +kernel
theorem d58_1 : decode prog_6_method_4_code 1 = .ok (.aload_n 1, 1) := by decide +kernel
theorem d58_2 : decode prog_6_method_4_code 2 = .ok (.aload_n 0, 1) := by decide +kernel
theorem d58_3 : decode prog_6_method_4_code 3 = .ok (.getfield 9, 3) := by decide +kernel
theorem d58_6 : decode prog_6_method_4_code 6 = .ok (.getfield 54, 3) := by decide +kernel
theorem d58_9 : decode prog_6_method_4_code 9 = .ok (.iload_n 2, 1) := by decide +kernel
theorem d58_10 : decode prog_6_method_4_code 10 = .ok (.iaload, 1) := by decide +kernel
theorem d58_11 : decode prog_6_method_4_code 11 = .ok (.lload_n 3, 1) := by decide +kernel
theorem d58_12 : decode prog_6_method_4_code 12 = .ok (.lload 5, 2) := by decide +kernel
theorem d58_14 : decode prog_6_method_4_code 14 = .ok (.iload 7, 2) := by decide +kernel
theorem d58_16 : decode prog_6_method_4_code 16 = .ok (.invokevirtual 37, 3) := by decide +kernel
theorem d58_19 : decode prog_6_method_4_code 19 = .ok (.lstore 8, 2) := by decide +kernel
theorem d58_21 : decode prog_6_method_4_code 21 = .ok (.lload 8, 2) := by decide +kernel
theorem d58_23 : decode prog_6_method_4_code 23 = .ok (.invokestatic 69, 3) := by decide +kernel
theorem d58_26 : decode prog_6_method_4_code 26 = .ok (.ifCond .eq 6, 3) := by decide +kernel
theorem d58_29 : decode prog_6_method_4_code 29 = .ok (.lload 8, 2) := by decide +kernel
theorem d58_31 : decode prog_6_method_4_code 31 = .ok (.lreturn, 1) := by decide +kernel
theorem d58_32 : decode prog_6_method_4_code 32 = .ok (.aload_n 0, 1) := by decide +kernel
theorem d58_33 : decode prog_6_method_4_code 33 = .ok (.aload_n 1, 1) := by decide +kernel
theorem d58_34 : decode prog_6_method_4_code 34 = .ok (.aload_n 0, 1) := by decide +kernel
theorem d58_35 : decode prog_6_method_4_code 35 = .ok (.getfield 9, 3) := by decide +kernel
theorem d58_38 : decode prog_6_method_4_code 38 = .ok (.getfield 75, 3) := by decide +kernel
theorem d58_41 : decode prog_6_method_4_code 41 = .ok (.iload_n 2, 1) := by decide +kernel
theorem d58_42 : decode prog_6_method_4_code 42 = .ok (.iaload, 1) := by decide +kernel
theorem d58_43 : decode prog_6_method_4_code 43 = .ok (.lload_n 3, 1) := by decide +kernel
theorem d58_44 : decode prog_6_method_4_code 44 = .ok (.lload 5, 2) := by decide +kernel
theorem d58_46 : decode prog_6_method_4_code 46 = .ok (.iload 7, 2) := by decide +kernel
theorem d58_48 : decode prog_6_method_4_code 48 = .ok (.invokevirtual 37, 3) := by decide +kernel
theorem d58_51 : decode prog_6_method_4_code 51 = .ok (.lstore 10, 2) := by decide +kernel
theorem d58_53 : decode prog_6_method_4_code 53 = .ok (.lload 10, 2) := by decide +kernel
theorem d58_55 : decode prog_6_method_4_code 55 = .ok (.invokestatic 69, 3) := by decide +kernel
theorem d58_58 : decode prog_6_method_4_code 58 = .ok (.ifCond .eq 6, 3) := by decide +kernel
theorem d58_61 : decode prog_6_method_4_code 61 = .ok (.lload 10, 2) := by decide +kernel
theorem d58_63 : decode prog_6_method_4_code 63 = .ok (.lreturn, 1) := by decide +kernel
theorem d58_64 : decode prog_6_method_4_code 64 = .ok (.aload_n 0, 1) := by decide +kernel
theorem d58_65 : decode prog_6_method_4_code 65 = .ok (.getfield 9, 3) := by decide +kernel
theorem d58_68 : decode prog_6_method_4_code 68 = .ok (.getfield 51, 3) := by decide +kernel
theorem d58_71 : decode prog_6_method_4_code 71 = .ok (.iload_n 2, 1) := by decide +kernel
theorem d58_72 : decode prog_6_method_4_code 72 = .ok (.iaload, 1) := by decide +kernel
theorem d58_73 : decode prog_6_method_4_code 73 = .ok (.aload_n 1, 1) := by decide +kernel
theorem d58_74 : decode prog_6_method_4_code 74 = .ok (.getfield 78, 3) := by decide +kernel
theorem d58_77 : decode prog_6_method_4_code 77 = .ok (.iload_n 2, 1) := by decide +kernel
theorem d58_78 : decode prog_6_method_4_code 78 = .ok (.iaload, 1) := by decide +kernel
theorem d58_79 : decode prog_6_method_4_code 79 = .ok (.lload 8, 2) := by decide +kernel
theorem d58_81 : decode prog_6_method_4_code 81 = .ok (.lload 10, 2) := by decide +kernel
theorem d58_83 : decode prog_6_method_4_code 83 = .ok (.invokestatic 81, 3) := by decide +kernel
theorem d58_86 : decode prog_6_method_4_code 86 = .ok (.lreturn, 1) := by decide +kernel
theorem d59_0 : decode prog_6_method_5_code 0 = .ok (.aload_n 0, 1) := by decide +kernel
theorem d59_1 : decode prog_6_method_5_code 1 = .ok (.getfield 9, 3) := by decide +kernel
theorem d59_4 : decode prog_6_method_5_code 4 = .ok (.getfield 54, 3) := by decide +kernel
theorem d59_7 : decode prog_6_method_5_code 7 = .ok (.iload_n 2, 1) := by decide +kernel
theorem d59_8 : decode prog_6_method_5_code 8 = .ok (.iaload, 1) := by decide +kernel
theorem d59_9 : decode prog_6_method_5_code 9 = .ok (.istore 8, 2) := by decide +kernel
theorem d59_11 : decode prog_6_method_5_code 11 = .ok (.aload_n 1, 1) := by decide +kernel
theorem d59_12 : decode prog_6_method_5_code 12 = .ok (.getfield 43, 3) := by decide +kernel
theorem d59_15 : decode prog_6_method_5_code 15 = .ok (.iload 8, 2) := by decide +kernel
theorem d59_17 : decode prog_6_method_5_code 17 = .ok (.baload, 1) := by decide +kernel
theorem d59_18 : decode prog_6_method_5_code 18 = .ok (.ifCond .eq 13, 3) := by decide +kernel
theorem d59_21 : decode prog_6_method_5_code 21 = .ok (.aload_n 1, 1) := by decide +kernel
theorem d59_22 : decode prog_6_method_5_code 22 = .ok (.getfield 47, 3) := by decide +kernel
theorem d59_25 : decode prog_6_method_5_code 25 = .ok (.iload 8, 2) := by decide +kernel
theorem d59_27 : decode prog_6_method_5_code 27 = .ok (.laload, 1) := by decide +kernel
theorem d59_28 : decode prog_6_method_5_code 28 = .ok (.goto 15, 3) := by decide +kernel
theorem d59_31 : decode prog_6_method_5_code 31 = .ok (.aload_n 0, 1) := by decide +kernel
theorem d59_32 : decode prog_6_method_5_code 32 = .ok (.aload_n 1, 1) := by decide +kernel
theorem d59_33 : decode prog_6_method_5_code 33 = .ok (.iload 8, 2) := by decide +kernel
theorem d59_35 : decode prog_6_method_5_code 35 = .ok (.lload_n 3, 1) := by decide +kernel
theorem d59_36 : decode prog_6_method_5_code 36 = .ok (.lload 5, 2) := by decide +kernel
theorem d59_38 : decode prog_6_method_5_code 38 = .ok (.iload 7, 2) := by decide +kernel
theorem d59_40 : decode prog_6_method_5_code 40 = .ok (.invokevirtual 37, 3) := by decide +kernel
theorem d59_43 : decode prog_6_method_5_code 43 = .ok (.lstore 9, 2) := by decide +kernel
theorem d59_45 : decode prog_6_method_5_code 45 = .ok (.lload 9, 2) := by decide +kernel
theorem d59_47 : decode prog_6_method_5_code 47 = .ok (.invokestatic 69, 3) := by decide +kernel
theorem d59_50 : decode prog_6_method_5_code 50 = .ok (.ifCond .eq 6, 3) := by decide +kernel
theorem d59_53 : decode prog_6_method_5_code 53 = .ok (.lload 9, 2) := by decide +kernel
theorem d59_55 : decode prog_6_method_5_code 55 = .ok (.lreturn, 1) := by decide +kernel
theorem d59_56 : decode prog_6_method_5_code 56 = .ok (.lload 9, 2) := by decide +kernel
theorem d59_58 : decode prog_6_method_5_code 58 = .ok (.lconst 0, 1) := by decide +kernel
theorem d59_59 : decode prog_6_method_5_code 59 = .ok (.lcmp, 1) := by decide +kernel
theorem d59_60 : decode prog_6_method_5_code 60 = .ok (.ifCond .eq 15, 3) := by decide +kernel
theorem d59_63 : decode prog_6_method_5_code 63 = .ok (.aload_n 0, 1) := by decide +kernel
theorem d59_64 : decode prog_6_method_5_code 64 = .ok (.getfield 9, 3) := by decide +kernel
theorem d59_67 : decode prog_6_method_5_code 67 = .ok (.getfield 75, 3) := by decide +kernel
theorem d59_70 : decode prog_6_method_5_code 70 = .ok (.iload_n 2, 1) := by decide +kernel
theorem d59_71 : decode prog_6_method_5_code 71 = .ok (.iaload, 1) := by decide +kernel
theorem d59_72 : decode prog_6_method_5_code 72 = .ok (.goto 12, 3) := by decide +kernel
theorem d59_75 : decode prog_6_method_5_code 75 = .ok (.aload_n 0, 1) := by decide +kernel
theorem d59_76 : decode prog_6_method_5_code 76 = .ok (.getfield 9, 3) := by decide +kernel
theorem d59_79 : decode prog_6_method_5_code 79 = .ok (.getfield 85, 3) := by decide +kernel
theorem d59_82 : decode prog_6_method_5_code 82 = .ok (.iload_n 2, 1) := by decide +kernel
theorem d59_83 : decode prog_6_method_5_code 83 = .ok (.iaload, 1) := by decide +kernel
theorem d59_84 : decode prog_6_method_5_code 84 = .ok (.istore 11, 2) := by decide +kernel
theorem d59_86 : decode prog_6_method_5_code 86 = .ok (.aload_n 0, 1) := by decide +kernel
theorem d59_87 : decode prog_6_method_5_code 87 = .ok (.aload_n 1, 1) := by decide +kernel
theorem d59_88 : decode prog_6_method_5_code 88 = .ok (.iload 11, 2) := by decide +kernel
theorem d59_90 : decode prog_6_method_5_code 90 = .ok (.lload_n 3, 1) := by decide +kernel
theorem d59_91 : decode prog_6_method_5_code 91 = .ok (.lload 5, 2) := by decide +kernel
theorem d59_93 : decode prog_6_method_5_code 93 = .ok (.iload 7, 2) := by decide +kernel
theorem d59_95 : decode prog_6_method_5_code 95 = .ok (.invokevirtual 37, 3) := by decide +kernel
theorem d59_98 : decode prog_6_method_5_code 98 = .ok (.lreturn, 1) := by decide +kernel

/-! decode rows, printed by a program of mine out of the listing -/
theorem d86_0 : decode prog_10_method_26_code 0 = .ok (.aload_n 0, 1) := by decide +kernel
theorem d86_1 : decode prog_10_method_26_code 1 = .ok (.getfield 119, 3) := by decide +kernel
theorem d86_4 : decode prog_10_method_26_code 4 = .ok (.iload_n 1, 1) := by decide +kernel
theorem d86_5 : decode prog_10_method_26_code 5 = .ok (.laload, 1) := by decide +kernel
theorem d86_6 : decode prog_10_method_26_code 6 = .ok (.aload_n 0, 1) := by decide +kernel
theorem d86_7 : decode prog_10_method_26_code 7 = .ok (.getfield 45, 3) := by decide +kernel
theorem d86_10 : decode prog_10_method_26_code 10 = .ok (.iload_n 2, 1) := by decide +kernel
theorem d86_11 : decode prog_10_method_26_code 11 = .ok (.iaload, 1) := by decide +kernel
theorem d86_12 : decode prog_10_method_26_code 12 = .ok (.sipush 300, 3) := by decide +kernel
theorem d86_15 : decode prog_10_method_26_code 15 = .ok (.if_icmp .ne 7, 3) := by decide +kernel
theorem d86_18 : decode prog_10_method_26_code 18 = .ok (.lload_n 3, 1) := by decide +kernel
theorem d86_19 : decode prog_10_method_26_code 19 = .ok (.goto 4, 3) := by decide +kernel
theorem d86_22 : decode prog_10_method_26_code 22 = .ok (.lconst 0, 1) := by decide +kernel
theorem d86_23 : decode prog_10_method_26_code 23 = .ok (.lcmp, 1) := by decide +kernel
theorem d86_24 : decode prog_10_method_26_code 24 = .ok (.ifCond .ne 35, 3) := by decide +kernel
theorem d86_27 : decode prog_10_method_26_code 27 = .ok (.aload_n 0, 1) := by decide +kernel
theorem d86_28 : decode prog_10_method_26_code 28 = .ok (.getfield 122, 3) := by decide +kernel
theorem d86_31 : decode prog_10_method_26_code 31 = .ok (.iload_n 1, 1) := by decide +kernel
theorem d86_32 : decode prog_10_method_26_code 32 = .ok (.laload, 1) := by decide +kernel
theorem d86_33 : decode prog_10_method_26_code 33 = .ok (.aload_n 0, 1) := by decide +kernel
theorem d86_34 : decode prog_10_method_26_code 34 = .ok (.getfield 48, 3) := by decide +kernel
theorem d86_37 : decode prog_10_method_26_code 37 = .ok (.iload_n 2, 1) := by decide +kernel
theorem d86_38 : decode prog_10_method_26_code 38 = .ok (.iaload, 1) := by decide +kernel
theorem d86_39 : decode prog_10_method_26_code 39 = .ok (.sipush 300, 3) := by decide +kernel
theorem d86_42 : decode prog_10_method_26_code 42 = .ok (.if_icmp .ne 8, 3) := by decide +kernel
theorem d86_45 : decode prog_10_method_26_code 45 = .ok (.lload 5, 2) := by decide +kernel
theorem d86_47 : decode prog_10_method_26_code 47 = .ok (.goto 4, 3) := by decide +kernel
theorem d86_50 : decode prog_10_method_26_code 50 = .ok (.lconst 0, 1) := by decide +kernel
theorem d86_51 : decode prog_10_method_26_code 51 = .ok (.lcmp, 1) := by decide +kernel
theorem d86_52 : decode prog_10_method_26_code 52 = .ok (.ifCond .ne 7, 3) := by decide +kernel
theorem d86_55 : decode prog_10_method_26_code 55 = .ok (.iconst 1, 1) := by decide +kernel
theorem d86_56 : decode prog_10_method_26_code 56 = .ok (.goto 4, 3) := by decide +kernel
theorem d86_59 : decode prog_10_method_26_code 59 = .ok (.iconst 0, 1) := by decide +kernel
theorem d86_60 : decode prog_10_method_26_code 60 = .ok (.ireturn, 1) := by decide +kernel
theorem d87_0 : decode prog_10_method_27_code 0 = .ok (.iload_n 1, 1) := by decide +kernel
theorem d87_1 : decode prog_10_method_27_code 1 = .ok (.bipush 60, 2) := by decide +kernel
theorem d87_3 : decode prog_10_method_27_code 3 = .ok (.imul, 1) := by decide +kernel
theorem d87_4 : decode prog_10_method_27_code 4 = .ok (.iload_n 3, 1) := by decide +kernel
theorem d87_5 : decode prog_10_method_27_code 5 = .ok (.iadd, 1) := by decide +kernel
theorem d87_6 : decode prog_10_method_27_code 6 = .ok (.istore 5, 2) := by decide +kernel
theorem d87_8 : decode prog_10_method_27_code 8 = .ok (.aload_n 0, 1) := by decide +kernel
theorem d87_9 : decode prog_10_method_27_code 9 = .ok (.getfield 72, 3) := by decide +kernel
theorem d87_12 : decode prog_10_method_27_code 12 = .ok (.iload 5, 2) := by decide +kernel
theorem d87_14 : decode prog_10_method_27_code 14 = .ok (.iaload, 1) := by decide +kernel
theorem d87_15 : decode prog_10_method_27_code 15 = .ok (.iload 4, 2) := by decide +kernel
theorem d87_17 : decode prog_10_method_27_code 17 = .ok (.if_icmp .ne 5, 3) := by decide +kernel
theorem d87_20 : decode prog_10_method_27_code 20 = .ok (.iconst 1, 1) := by decide +kernel
theorem d87_21 : decode prog_10_method_27_code 21 = .ok (.ireturn, 1) := by decide +kernel
theorem d87_22 : decode prog_10_method_27_code 22 = .ok (.aload_n 0, 1) := by decide +kernel
theorem d87_23 : decode prog_10_method_27_code 23 = .ok (.getfield 72, 3) := by decide +kernel
theorem d87_26 : decode prog_10_method_27_code 26 = .ok (.iload 5, 2) := by decide +kernel
theorem d87_28 : decode prog_10_method_27_code 28 = .ok (.iaload, 1) := by decide +kernel
theorem d87_29 : decode prog_10_method_27_code 29 = .ok (.sipush 300, 3) := by decide +kernel
theorem d87_32 : decode prog_10_method_27_code 32 = .ok (.if_icmp .ne 16, 3) := by decide +kernel
theorem d87_35 : decode prog_10_method_27_code 35 = .ok (.aload_n 0, 1) := by decide +kernel
theorem d87_36 : decode prog_10_method_27_code 36 = .ok (.iload 4, 2) := by decide +kernel
theorem d87_38 : decode prog_10_method_27_code 38 = .ok (.invokevirtual 165, 3) := by decide +kernel
theorem d87_41 : decode prog_10_method_27_code 41 = .ok (.ifCond .eq 7, 3) := by decide +kernel
theorem d87_44 : decode prog_10_method_27_code 44 = .ok (.iconst 1, 1) := by decide +kernel
theorem d87_45 : decode prog_10_method_27_code 45 = .ok (.goto 4, 3) := by decide +kernel
theorem d87_48 : decode prog_10_method_27_code 48 = .ok (.iconst 0, 1) := by decide +kernel
theorem d87_49 : decode prog_10_method_27_code 49 = .ok (.istore 6, 2) := by decide +kernel
theorem d87_51 : decode prog_10_method_27_code 51 = .ok (.iload 6, 2) := by decide +kernel
theorem d87_53 : decode prog_10_method_27_code 53 = .ok (.ifCond .eq 21, 3) := by decide +kernel
theorem d87_56 : decode prog_10_method_27_code 56 = .ok (.aload_n 0, 1) := by decide +kernel
theorem d87_57 : decode prog_10_method_27_code 57 = .ok (.iload 4, 2) := by decide +kernel
theorem d87_59 : decode prog_10_method_27_code 59 = .ok (.aload_n 0, 1) := by decide +kernel
theorem d87_60 : decode prog_10_method_27_code 60 = .ok (.getfield 78, 3) := by decide +kernel
theorem d87_63 : decode prog_10_method_27_code 63 = .ok (.iload 5, 2) := by decide +kernel
theorem d87_65 : decode prog_10_method_27_code 65 = .ok (.laload, 1) := by decide +kernel
theorem d87_66 : decode prog_10_method_27_code 66 = .ok (.invokevirtual 168, 3) := by decide +kernel
theorem d87_69 : decode prog_10_method_27_code 69 = .ok (.ifCond .eq 5, 3) := by decide +kernel
theorem d87_72 : decode prog_10_method_27_code 72 = .ok (.iconst 1, 1) := by decide +kernel
theorem d87_73 : decode prog_10_method_27_code 73 = .ok (.ireturn, 1) := by decide +kernel
theorem d87_74 : decode prog_10_method_27_code 74 = .ok (.aload_n 0, 1) := by decide +kernel
theorem d87_75 : decode prog_10_method_27_code 75 = .ok (.iload 6, 2) := by decide +kernel
theorem d87_77 : decode prog_10_method_27_code 77 = .ok (.ifCond .eq 8, 3) := by decide +kernel
theorem d87_80 : decode prog_10_method_27_code 80 = .ok (.bipush (-3), 2) := by decide +kernel
theorem d87_82 : decode prog_10_method_27_code 82 = .ok (.goto 5, 3) := by decide +kernel
theorem d87_85 : decode prog_10_method_27_code 85 = .ok (.bipush (-2), 2) := by decide +kernel
theorem d87_87 : decode prog_10_method_27_code 87 = .ok (.iload_n 1, 1) := by decide +kernel
theorem d87_88 : decode prog_10_method_27_code 88 = .ok (.iload_n 2, 1) := by decide +kernel
theorem d87_89 : decode prog_10_method_27_code 89 = .ok (.invokevirtual 162, 3) := by decide +kernel
theorem d87_92 : decode prog_10_method_27_code 92 = .ok (.pop, 1) := by decide +kernel
theorem d87_93 : decode prog_10_method_27_code 93 = .ok (.iconst 0, 1) := by decide +kernel
theorem d87_94 : decode prog_10_method_27_code 94 = .ok (.ireturn, 1) := by decide +kernel
theorem d88_0 : decode prog_10_method_28_code 0 = .ok (.aload_n 0, 1) := by decide +kernel
theorem d88_1 : decode prog_10_method_28_code 1 = .ok (.getfield 29, 3) := by decide +kernel
theorem d88_4 : decode prog_10_method_28_code 4 = .ok (.iload_n 2, 1) := by decide +kernel
theorem d88_5 : decode prog_10_method_28_code 5 = .ok (.iaload, 1) := by decide +kernel
theorem d88_6 : decode prog_10_method_28_code 6 = .ok (.istore_n 3, 1) := by decide +kernel
theorem d88_7 : decode prog_10_method_28_code 7 = .ok (.aload_n 0, 1) := by decide +kernel
theorem d88_8 : decode prog_10_method_28_code 8 = .ok (.getfield 32, 3) := by decide +kernel
theorem d88_11 : decode prog_10_method_28_code 11 = .ok (.iload_n 2, 1) := by decide +kernel
theorem d88_12 : decode prog_10_method_28_code 12 = .ok (.iaload, 1) := by decide +kernel
theorem d88_13 : decode prog_10_method_28_code 13 = .ok (.istore 4, 2) := by decide +kernel
theorem d88_15 : decode prog_10_method_28_code 15 = .ok (.aload_n 0, 1) := by decide +kernel
theorem d88_16 : decode prog_10_method_28_code 16 = .ok (.getfield 35, 3) := by decide +kernel
theorem d88_19 : decode prog_10_method_28_code 19 = .ok (.iload_n 2, 1) := by decide +kernel
theorem d88_20 : decode prog_10_method_28_code 20 = .ok (.iaload, 1) := by decide +kernel
theorem d88_21 : decode prog_10_method_28_code 21 = .ok (.istore 5, 2) := by decide +kernel
theorem d88_23 : decode prog_10_method_28_code 23 = .ok (.iload_n 1, 1) := by decide +kernel
theorem d88_24 : decode prog_10_method_28_code 24 = .ok (.bipush 60, 2) := by decide +kernel
theorem d88_26 : decode prog_10_method_28_code 26 = .ok (.imul, 1) := by decide +kernel
theorem d88_27 : decode prog_10_method_28_code 27 = .ok (.istore 6, 2) := by decide +kernel
theorem d88_29 : decode prog_10_method_28_code 29 = .ok (.aload_n 0, 1) := by decide +kernel
theorem d88_30 : decode prog_10_method_28_code 30 = .ok (.getfield 45, 3) := by decide +kernel
theorem d88_33 : decode prog_10_method_28_code 33 = .ok (.iload_n 3, 1) := by decide +kernel
theorem d88_34 : decode prog_10_method_28_code 34 = .ok (.iaload, 1) := by decide +kernel
theorem d88_35 : decode prog_10_method_28_code 35 = .ok (.sipush 300, 3) := by decide +kernel
theorem d88_38 : decode prog_10_method_28_code 38 = .ok (.if_icmp .ne 7, 3) := by decide +kernel
theorem d88_41 : decode prog_10_method_28_code 41 = .ok (.iconst 1, 1) := by decide +kernel
theorem d88_42 : decode prog_10_method_28_code 42 = .ok (.goto 4, 3) := by decide +kernel
theorem d88_45 : decode prog_10_method_28_code 45 = .ok (.iconst 0, 1) := by decide +kernel
theorem d88_46 : decode prog_10_method_28_code 46 = .ok (.istore 7, 2) := by decide +kernel
theorem d88_48 : decode prog_10_method_28_code 48 = .ok (.aload_n 0, 1) := by decide +kernel
theorem d88_49 : decode prog_10_method_28_code 49 = .ok (.getfield 48, 3) := by decide +kernel
theorem d88_52 : decode prog_10_method_28_code 52 = .ok (.iload_n 3, 1) := by decide +kernel
theorem d88_53 : decode prog_10_method_28_code 53 = .ok (.iaload, 1) := by decide +kernel
theorem d88_54 : decode prog_10_method_28_code 54 = .ok (.sipush 300, 3) := by decide +kernel
theorem d88_57 : decode prog_10_method_28_code 57 = .ok (.if_icmp .ne 7, 3) := by decide +kernel
theorem d88_60 : decode prog_10_method_28_code 60 = .ok (.iconst 1, 1) := by decide +kernel
theorem d88_61 : decode prog_10_method_28_code 61 = .ok (.goto 4, 3) := by decide +kernel
theorem d88_64 : decode prog_10_method_28_code 64 = .ok (.iconst 0, 1) := by decide +kernel
theorem d88_65 : decode prog_10_method_28_code 65 = .ok (.istore 8, 2) := by decide +kernel
theorem d88_67 : decode prog_10_method_28_code 67 = .ok (.iload 7, 2) := by decide +kernel
theorem d88_69 : decode prog_10_method_28_code 69 = .ok (.ifCond .eq 19, 3) := by decide +kernel
theorem d88_72 : decode prog_10_method_28_code 72 = .ok (.aload_n 0, 1) := by decide +kernel
theorem d88_73 : decode prog_10_method_28_code 73 = .ok (.getfield 72, 3) := by decide +kernel
theorem d88_76 : decode prog_10_method_28_code 76 = .ok (.iload 6, 2) := by decide +kernel
theorem d88_78 : decode prog_10_method_28_code 78 = .ok (.iload 4, 2) := by decide +kernel
theorem d88_80 : decode prog_10_method_28_code 80 = .ok (.iadd, 1) := by decide +kernel
theorem d88_81 : decode prog_10_method_28_code 81 = .ok (.iaload, 1) := by decide +kernel
theorem d88_82 : decode prog_10_method_28_code 82 = .ok (.sipush 300, 3) := by decide +kernel
theorem d88_85 : decode prog_10_method_28_code 85 = .ok (.if_icmp .ne 24, 3) := by decide +kernel
theorem d88_88 : decode prog_10_method_28_code 88 = .ok (.iload 8, 2) := by decide +kernel
theorem d88_90 : decode prog_10_method_28_code 90 = .ok (.ifCond .eq 29, 3) := by decide +kernel
theorem d88_93 : decode prog_10_method_28_code 93 = .ok (.aload_n 0, 1) := by decide +kernel
theorem d88_94 : decode prog_10_method_28_code 94 = .ok (.getfield 72, 3) := by decide +kernel
theorem d88_97 : decode prog_10_method_28_code 97 = .ok (.iload 6, 2) := by decide +kernel
theorem d88_99 : decode prog_10_method_28_code 99 = .ok (.iload 5, 2) := by decide +kernel
theorem d88_101 : decode prog_10_method_28_code 101 = .ok (.iadd, 1) := by decide +kernel
theorem d88_102 : decode prog_10_method_28_code 102 = .ok (.iaload, 1) := by decide +kernel
theorem d88_103 : decode prog_10_method_28_code 103 = .ok (.sipush 300, 3) := by decide +kernel
theorem d88_106 : decode prog_10_method_28_code 106 = .ok (.if_icmp .eq 13, 3) := by decide +kernel
theorem d88_109 : decode prog_10_method_28_code 109 = .ok (.aload_n 0, 1) := by decide +kernel
theorem d88_110 : decode prog_10_method_28_code 110 = .ok (.bipush (-2), 2) := by decide +kernel
theorem d88_112 : decode prog_10_method_28_code 112 = .ok (.iload_n 1, 1) := by decide +kernel
theorem d88_113 : decode prog_10_method_28_code 113 = .ok (.iload_n 2, 1) := by decide +kernel
theorem d88_114 : decode prog_10_method_28_code 114 = .ok (.invokevirtual 162, 3) := by decide +kernel
theorem d88_117 : decode prog_10_method_28_code 117 = .ok (.pop, 1) := by decide +kernel
theorem d88_118 : decode prog_10_method_28_code 118 = .ok (.return_, 1) := by decide +kernel
theorem d88_119 : decode prog_10_method_28_code 119 = .ok (.aload_n 0, 1) := by decide +kernel
theorem d88_120 : decode prog_10_method_28_code 120 = .ok (.iload_n 1, 1) := by decide +kernel
theorem d88_121 : decode prog_10_method_28_code 121 = .ok (.iload_n 2, 1) := by decide +kernel
theorem d88_122 : decode prog_10_method_28_code 122 = .ok (.iload_n 3, 1) := by decide +kernel
theorem d88_123 : decode prog_10_method_28_code 123 = .ok (.iload 7, 2) := by decide +kernel
theorem d88_125 : decode prog_10_method_28_code 125 = .ok (.ifCond .eq 16, 3) := by decide +kernel
theorem d88_128 : decode prog_10_method_28_code 128 = .ok (.aload_n 0, 1) := by decide +kernel
theorem d88_129 : decode prog_10_method_28_code 129 = .ok (.getfield 78, 3) := by decide +kernel
theorem d88_132 : decode prog_10_method_28_code 132 = .ok (.iload 6, 2) := by decide +kernel
theorem d88_134 : decode prog_10_method_28_code 134 = .ok (.iload 4, 2) := by decide +kernel
theorem d88_136 : decode prog_10_method_28_code 136 = .ok (.iadd, 1) := by decide +kernel
theorem d88_137 : decode prog_10_method_28_code 137 = .ok (.laload, 1) := by decide +kernel
theorem d88_138 : decode prog_10_method_28_code 138 = .ok (.goto 4, 3) := by decide +kernel
theorem d88_141 : decode prog_10_method_28_code 141 = .ok (.lconst 0, 1) := by decide +kernel
theorem d88_142 : decode prog_10_method_28_code 142 = .ok (.iload 8, 2) := by decide +kernel
theorem d88_144 : decode prog_10_method_28_code 144 = .ok (.ifCond .eq 16, 3) := by decide +kernel
theorem d88_147 : decode prog_10_method_28_code 147 = .ok (.aload_n 0, 1) := by decide +kernel
theorem d88_148 : decode prog_10_method_28_code 148 = .ok (.getfield 78, 3) := by decide +kernel
theorem d88_151 : decode prog_10_method_28_code 151 = .ok (.iload 6, 2) := by decide +kernel
theorem d88_153 : decode prog_10_method_28_code 153 = .ok (.iload 5, 2) := by decide +kernel
theorem d88_155 : decode prog_10_method_28_code 155 = .ok (.iadd, 1) := by decide +kernel
theorem d88_156 : decode prog_10_method_28_code 156 = .ok (.laload, 1) := by decide +kernel
theorem d88_157 : decode prog_10_method_28_code 157 = .ok (.goto 4, 3) := by decide +kernel
theorem d88_160 : decode prog_10_method_28_code 160 = .ok (.lconst 0, 1) := by decide +kernel
theorem d88_161 : decode prog_10_method_28_code 161 = .ok (.invokevirtual 196, 3) := by decide +kernel
theorem d88_164 : decode prog_10_method_28_code 164 = .ok (.istore 9, 2) := by decide +kernel
theorem d88_166 : decode prog_10_method_28_code 166 = .ok (.iload 9, 2) := by decide +kernel
theorem d88_168 : decode prog_10_method_28_code 168 = .ok (.ifCond .ge 4, 3) := by decide +kernel
theorem d88_171 : decode prog_10_method_28_code 171 = .ok (.return_, 1) := by decide +kernel
theorem d88_172 : decode prog_10_method_28_code 172 = .ok (.iload 7, 2) := by decide +kernel
theorem d88_174 : decode prog_10_method_28_code 174 = .ok (.ifCond .ne 32, 3) := by decide +kernel
theorem d88_177 : decode prog_10_method_28_code 177 = .ok (.iload 4, 2) := by decide +kernel
theorem d88_179 : decode prog_10_method_28_code 179 = .ok (.ifCond .lt 27, 3) := by decide +kernel
theorem d88_182 : decode prog_10_method_28_code 182 = .ok (.aload_n 0, 1) := by decide +kernel
theorem d88_183 : decode prog_10_method_28_code 183 = .ok (.iload_n 1, 1) := by decide +kernel
theorem d88_184 : decode prog_10_method_28_code 184 = .ok (.iload_n 2, 1) := by decide +kernel
theorem d88_185 : decode prog_10_method_28_code 185 = .ok (.iload 4, 2) := by decide +kernel
theorem d88_187 : decode prog_10_method_28_code 187 = .ok (.aload_n 0, 1) := by decide +kernel
theorem d88_188 : decode prog_10_method_28_code 188 = .ok (.iload 9, 2) := by decide +kernel
theorem d88_190 : decode prog_10_method_28_code 190 = .ok (.aload_n 0, 1) := by decide +kernel
theorem d88_191 : decode prog_10_method_28_code 191 = .ok (.getfield 45, 3) := by decide +kernel
theorem d88_194 : decode prog_10_method_28_code 194 = .ok (.iload_n 3, 1) := by decide +kernel
theorem d88_195 : decode prog_10_method_28_code 195 = .ok (.iaload, 1) := by decide +kernel
theorem d88_196 : decode prog_10_method_28_code 196 = .ok (.invokevirtual 188, 3) := by decide +kernel
theorem d88_199 : decode prog_10_method_28_code 199 = .ok (.invokevirtual 200, 3) := by decide +kernel
theorem d88_202 : decode prog_10_method_28_code 202 = .ok (.ifCond .ne 4, 3) := by decide +kernel
theorem d88_205 : decode prog_10_method_28_code 205 = .ok (.return_, 1) := by decide +kernel
theorem d88_206 : decode prog_10_method_28_code 206 = .ok (.iload 8, 2) := by decide +kernel
theorem d88_208 : decode prog_10_method_28_code 208 = .ok (.ifCond .ne 32, 3) := by decide +kernel
theorem d88_211 : decode prog_10_method_28_code 211 = .ok (.iload 5, 2) := by decide +kernel
theorem d88_213 : decode prog_10_method_28_code 213 = .ok (.ifCond .lt 27, 3) := by decide +kernel
theorem d88_216 : decode prog_10_method_28_code 216 = .ok (.aload_n 0, 1) := by decide +kernel
theorem d88_217 : decode prog_10_method_28_code 217 = .ok (.iload_n 1, 1) := by decide +kernel
theorem d88_218 : decode prog_10_method_28_code 218 = .ok (.iload_n 2, 1) := by decide +kernel
theorem d88_219 : decode prog_10_method_28_code 219 = .ok (.iload 5, 2) := by decide +kernel
theorem d88_221 : decode prog_10_method_28_code 221 = .ok (.aload_n 0, 1) := by decide +kernel
theorem d88_222 : decode prog_10_method_28_code 222 = .ok (.iload 9, 2) := by decide +kernel
theorem d88_224 : decode prog_10_method_28_code 224 = .ok (.aload_n 0, 1) := by decide +kernel
theorem d88_225 : decode prog_10_method_28_code 225 = .ok (.getfield 48, 3) := by decide +kernel
theorem d88_228 : decode prog_10_method_28_code 228 = .ok (.iload_n 3, 1) := by decide +kernel
theorem d88_229 : decode prog_10_method_28_code 229 = .ok (.iaload, 1) := by decide +kernel
theorem d88_230 : decode prog_10_method_28_code 230 = .ok (.invokevirtual 188, 3) := by decide +kernel
theorem d88_233 : decode prog_10_method_28_code 233 = .ok (.invokevirtual 200, 3) := by decide +kernel
theorem d88_236 : decode prog_10_method_28_code 236 = .ok (.ifCond .ne 4, 3) := by decide +kernel
theorem d88_239 : decode prog_10_method_28_code 239 = .ok (.return_, 1) := by decide +kernel
theorem d88_240 : decode prog_10_method_28_code 240 = .ok (.aload_n 0, 1) := by decide +kernel
theorem d88_241 : decode prog_10_method_28_code 241 = .ok (.getfield 75, 3) := by decide +kernel
theorem d88_244 : decode prog_10_method_28_code 244 = .ok (.iload 6, 2) := by decide +kernel
theorem d88_246 : decode prog_10_method_28_code 246 = .ok (.iload_n 2, 1) := by decide +kernel
theorem d88_247 : decode prog_10_method_28_code 247 = .ok (.iadd, 1) := by decide +kernel
theorem d88_248 : decode prog_10_method_28_code 248 = .ok (.iload 9, 2) := by decide +kernel
theorem d88_250 : decode prog_10_method_28_code 250 = .ok (.iastore, 1) := by decide +kernel
theorem d88_251 : decode prog_10_method_28_code 251 = .ok (.aload_n 0, 1) := by decide +kernel
theorem d88_252 : decode prog_10_method_28_code 252 = .ok (.iload_n 1, 1) := by decide +kernel
theorem d88_253 : decode prog_10_method_28_code 253 = .ok (.iload_n 2, 1) := by decide +kernel
theorem d88_254 : decode prog_10_method_28_code 254 = .ok (.aload_n 0, 1) := by decide +kernel
theorem d88_255 : decode prog_10_method_28_code 255 = .ok (.iload 9, 2) := by decide +kernel
theorem d88_257 : decode prog_10_method_28_code 257 = .ok (.aload_n 0, 1) := by decide +kernel
theorem d88_258 : decode prog_10_method_28_code 258 = .ok (.getfield 51, 3) := by decide +kernel
theorem d88_261 : decode prog_10_method_28_code 261 = .ok (.iload_n 3, 1) := by decide +kernel
theorem d88_262 : decode prog_10_method_28_code 262 = .ok (.iaload, 1) := by decide +kernel
theorem d88_263 : decode prog_10_method_28_code 263 = .ok (.invokevirtual 188, 3) := by decide +kernel
theorem d88_266 : decode prog_10_method_28_code 266 = .ok (.iconst 0, 1) := by decide +kernel
theorem d88_267 : decode prog_10_method_28_code 267 = .ok (.lconst 0, 1) := by decide +kernel
theorem d88_268 : decode prog_10_method_28_code 268 = .ok (.invokevirtual 184, 3) := by decide +kernel
theorem d88_271 : decode prog_10_method_28_code 271 = .ok (.return_, 1) := by decide +kernel
theorem d89_0 : decode prog_10_method_29_code 0 = .ok (.aload_n 0, 1) := by decide +kernel
theorem d89_1 : decode prog_10_method_29_code 1 = .ok (.getfield 25, 3) := by decide +kernel
theorem d89_4 : decode prog_10_method_29_code 4 = .ok (.iload_n 2, 1) := by decide +kernel
theorem d89_5 : decode prog_10_method_29_code 5 = .ok (.iaload, 1) := by decide +kernel
theorem d89_6 : decode prog_10_method_29_code 6 = .ok (.istore_n 3, 1) := by decide +kernel
theorem d89_7 : decode prog_10_method_29_code 7 = .ok (.aload_n 0, 1) := by decide +kernel
theorem d89_8 : decode prog_10_method_29_code 8 = .ok (.getfield 29, 3) := by decide +kernel
theorem d89_11 : decode prog_10_method_29_code 11 = .ok (.iload_n 2, 1) := by decide +kernel
theorem d89_12 : decode prog_10_method_29_code 12 = .ok (.iaload, 1) := by decide +kernel
theorem d89_13 : decode prog_10_method_29_code 13 = .ok (.istore 4, 2) := by decide +kernel
theorem d89_15 : decode prog_10_method_29_code 15 = .ok (.aload_n 0, 1) := by decide +kernel
theorem d89_16 : decode prog_10_method_29_code 16 = .ok (.getfield 57, 3) := by decide +kernel
theorem d89_19 : decode prog_10_method_29_code 19 = .ok (.iload_n 1, 1) := by decide +kernel
theorem d89_20 : decode prog_10_method_29_code 20 = .ok (.iaload, 1) := by decide +kernel
theorem d89_21 : decode prog_10_method_29_code 21 = .ok (.istore 5, 2) := by decide +kernel
theorem d89_23 : decode prog_10_method_29_code 23 = .ok (.iload_n 3, 1) := by decide +kernel
theorem d89_24 : decode prog_10_method_29_code 24 = .ok (.ifCond .ne 19, 3) := by decide +kernel
theorem d89_27 : decode prog_10_method_29_code 27 = .ok (.aload_n 0, 1) := by decide +kernel
theorem d89_28 : decode prog_10_method_29_code 28 = .ok (.iload_n 1, 1) := by decide +kernel
theorem d89_29 : decode prog_10_method_29_code 29 = .ok (.iload_n 2, 1) := by decide +kernel
theorem d89_30 : decode prog_10_method_29_code 30 = .ok (.sipush 300, 3) := by decide +kernel
theorem d89_33 : decode prog_10_method_29_code 33 = .ok (.iconst 1, 1) := by decide +kernel
theorem d89_34 : decode prog_10_method_29_code 34 = .ok (.iload 4, 2) := by decide +kernel
theorem d89_36 : decode prog_10_method_29_code 36 = .ok (.i2l, 1) := by decide +kernel
theorem d89_37 : decode prog_10_method_29_code 37 = .ok (.invokevirtual 184, 3) := by decide +kernel
theorem d89_40 : decode prog_10_method_29_code 40 = .ok (.goto 246, 3) := by decide +kernel
theorem d89_43 : decode prog_10_method_29_code 43 = .ok (.iload_n 3, 1) := by decide +kernel
theorem d89_44 : decode prog_10_method_29_code 44 = .ok (.iconst 1, 1) := by decide +kernel
theorem d89_45 : decode prog_10_method_29_code 45 = .ok (.if_icmp .ne 29, 3) := by decide +kernel
theorem d89_48 : decode prog_10_method_29_code 48 = .ok (.aload_n 0, 1) := by decide +kernel
theorem d89_49 : decode prog_10_method_29_code 49 = .ok (.iload 5, 2) := by decide +kernel
theorem d89_51 : decode prog_10_method_29_code 51 = .ok (.iload 4, 2) := by decide +kernel
theorem d89_53 : decode prog_10_method_29_code 53 = .ok (.invokevirtual 204, 3) := by decide +kernel
theorem d89_56 : decode prog_10_method_29_code 56 = .ok (.sipush 400, 3) := by decide +kernel
theorem d89_59 : decode prog_10_method_29_code 59 = .ok (.if_icmp .ne 15, 3) := by decide +kernel
theorem d89_62 : decode prog_10_method_29_code 62 = .ok (.aload_n 0, 1) := by decide +kernel
theorem d89_63 : decode prog_10_method_29_code 63 = .ok (.bipush (-2), 2) := by decide +kernel
theorem d89_65 : decode prog_10_method_29_code 65 = .ok (.iload_n 1, 1) := by decide +kernel
theorem d89_66 : decode prog_10_method_29_code 66 = .ok (.iload_n 2, 1) := by decide +kernel
theorem d89_67 : decode prog_10_method_29_code 67 = .ok (.invokevirtual 162, 3) := by decide +kernel
theorem d89_70 : decode prog_10_method_29_code 70 = .ok (.pop, 1) := by decide +kernel
theorem d89_71 : decode prog_10_method_29_code 71 = .ok (.goto 215, 3) := by decide +kernel
theorem d89_74 : decode prog_10_method_29_code 74 = .ok (.iload_n 3, 1) := by decide +kernel
theorem d89_75 : decode prog_10_method_29_code 75 = .ok (.iconst 1, 1) := by decide +kernel
theorem d89_76 : decode prog_10_method_29_code 76 = .ok (.if_icmp .ne 64, 3) := by decide +kernel
theorem d89_79 : decode prog_10_method_29_code 79 = .ok (.aload_n 0, 1) := by decide +kernel
theorem d89_80 : decode prog_10_method_29_code 80 = .ok (.iload_n 1, 1) := by decide +kernel
theorem d89_81 : decode prog_10_method_29_code 81 = .ok (.iload_n 2, 1) := by decide +kernel
theorem d89_82 : decode prog_10_method_29_code 82 = .ok (.aload_n 0, 1) := by decide +kernel
theorem d89_83 : decode prog_10_method_29_code 83 = .ok (.iload_n 1, 1) := by decide +kernel
theorem d89_84 : decode prog_10_method_29_code 84 = .ok (.aload_n 0, 1) := by decide +kernel
theorem d89_85 : decode prog_10_method_29_code 85 = .ok (.iload 5, 2) := by decide +kernel
theorem d89_87 : decode prog_10_method_29_code 87 = .ok (.iload 4, 2) := by decide +kernel
theorem d89_89 : decode prog_10_method_29_code 89 = .ok (.invokevirtual 204, 3) := by decide +kernel
theorem d89_92 : decode prog_10_method_29_code 92 = .ok (.invokevirtual 188, 3) := by decide +kernel
theorem d89_95 : decode prog_10_method_29_code 95 = .ok (.aload_n 0, 1) := by decide +kernel
theorem d89_96 : decode prog_10_method_29_code 96 = .ok (.iload 5, 2) := by decide +kernel
theorem d89_98 : decode prog_10_method_29_code 98 = .ok (.iload 4, 2) := by decide +kernel
theorem d89_100 : decode prog_10_method_29_code 100 = .ok (.invokevirtual 204, 3) := by decide +kernel
theorem d89_103 : decode prog_10_method_29_code 103 = .ok (.sipush 300, 3) := by decide +kernel
theorem d89_106 : decode prog_10_method_29_code 106 = .ok (.if_icmp .ne 7, 3) := by decide +kernel
theorem d89_109 : decode prog_10_method_29_code 109 = .ok (.iconst 1, 1) := by decide +kernel
theorem d89_110 : decode prog_10_method_29_code 110 = .ok (.goto 4, 3) := by decide +kernel
theorem d89_113 : decode prog_10_method_29_code 113 = .ok (.iconst 0, 1) := by decide +kernel
theorem d89_114 : decode prog_10_method_29_code 114 = .ok (.iload 4, 2) := by decide +kernel
theorem d89_116 : decode prog_10_method_29_code 116 = .ok (.ifCond .ne 12, 3) := by decide +kernel
theorem d89_119 : decode prog_10_method_29_code 119 = .ok (.aload_n 0, 1) := by decide +kernel
theorem d89_120 : decode prog_10_method_29_code 120 = .ok (.getfield 119, 3) := by decide +kernel
theorem d89_123 : decode prog_10_method_29_code 123 = .ok (.iload_n 1, 1) := by decide +kernel
theorem d89_124 : decode prog_10_method_29_code 124 = .ok (.laload, 1) := by decide +kernel
theorem d89_125 : decode prog_10_method_29_code 125 = .ok (.goto 9, 3) := by decide +kernel
theorem d89_128 : decode prog_10_method_29_code 128 = .ok (.aload_n 0, 1) := by decide +kernel
theorem d89_129 : decode prog_10_method_29_code 129 = .ok (.getfield 122, 3) := by decide +kernel
theorem d89_132 : decode prog_10_method_29_code 132 = .ok (.iload_n 1, 1) := by decide +kernel
theorem d89_133 : decode prog_10_method_29_code 133 = .ok (.laload, 1) := by decide +kernel
theorem d89_134 : decode prog_10_method_29_code 134 = .ok (.invokevirtual 184, 3) := by decide +kernel
theorem d89_137 : decode prog_10_method_29_code 137 = .ok (.goto 149, 3) := by decide +kernel
theorem d89_140 : decode prog_10_method_29_code 140 = .ok (.iload_n 3, 1) := by decide +kernel
theorem d89_141 : decode prog_10_method_29_code 141 = .ok (.bipush 13, 2) := by decide +kernel
theorem d89_143 : decode prog_10_method_29_code 143 = .ok (.if_icmp .ge 12, 3) := by decide +kernel
theorem d89_146 : decode prog_10_method_29_code 146 = .ok (.aload_n 0, 1) := by decide +kernel
theorem d89_147 : decode prog_10_method_29_code 147 = .ok (.iload_n 1, 1) := by decide +kernel
theorem d89_148 : decode prog_10_method_29_code 148 = .ok (.iload_n 2, 1) := by decide +kernel
theorem d89_149 : decode prog_10_method_29_code 149 = .ok (.invokevirtual 207, 3) := by decide +kernel
theorem d89_152 : decode prog_10_method_29_code 152 = .ok (.goto 134, 3) := by decide +kernel
theorem d89_155 : decode prog_10_method_29_code 155 = .ok (.iload_n 3, 1) := by decide +kernel
theorem d89_156 : decode prog_10_method_29_code 156 = .ok (.bipush 13, 2) := by decide +kernel
theorem d89_158 : decode prog_10_method_29_code 158 = .ok (.if_icmp .ne 12, 3) := by decide +kernel
theorem d89_161 : decode prog_10_method_29_code 161 = .ok (.aload_n 0, 1) := by decide +kernel
theorem d89_162 : decode prog_10_method_29_code 162 = .ok (.iload_n 1, 1) := by decide +kernel
theorem d89_163 : decode prog_10_method_29_code 163 = .ok (.iload_n 2, 1) := by decide +kernel
theorem d89_164 : decode prog_10_method_29_code 164 = .ok (.invokevirtual 211, 3) := by decide +kernel
theorem d89_167 : decode prog_10_method_29_code 167 = .ok (.goto 119, 3) := by decide +kernel
theorem d89_170 : decode prog_10_method_29_code 170 = .ok (.iload_n 3, 1) := by decide +kernel
theorem d89_171 : decode prog_10_method_29_code 171 = .ok (.bipush 14, 2) := by decide +kernel
theorem d89_173 : decode prog_10_method_29_code 173 = .ok (.if_icmp .ne 12, 3) := by decide +kernel
theorem d89_176 : decode prog_10_method_29_code 176 = .ok (.aload_n 0, 1) := by decide +kernel
theorem d89_177 : decode prog_10_method_29_code 177 = .ok (.iload_n 1, 1) := by decide +kernel
theorem d89_178 : decode prog_10_method_29_code 178 = .ok (.iload_n 2, 1) := by decide +kernel
theorem d89_179 : decode prog_10_method_29_code 179 = .ok (.invokevirtual 214, 3) := by decide +kernel
theorem d89_182 : decode prog_10_method_29_code 182 = .ok (.goto 104, 3) := by decide +kernel
theorem d89_185 : decode prog_10_method_29_code 185 = .ok (.iload_n 3, 1) := by decide +kernel
theorem d89_186 : decode prog_10_method_29_code 186 = .ok (.bipush 15, 2) := by decide +kernel
theorem d89_188 : decode prog_10_method_29_code 188 = .ok (.if_icmp .ne 12, 3) := by decide +kernel
theorem d89_191 : decode prog_10_method_29_code 191 = .ok (.aload_n 0, 1) := by decide +kernel
theorem d89_192 : decode prog_10_method_29_code 192 = .ok (.iload_n 1, 1) := by decide +kernel
theorem d89_193 : decode prog_10_method_29_code 193 = .ok (.iload_n 2, 1) := by decide +kernel
theorem d89_194 : decode prog_10_method_29_code 194 = .ok (.invokevirtual 217, 3) := by decide +kernel
theorem d89_197 : decode prog_10_method_29_code 197 = .ok (.goto 89, 3) := by decide +kernel
theorem d89_200 : decode prog_10_method_29_code 200 = .ok (.aload_n 0, 1) := by decide +kernel
theorem d89_201 : decode prog_10_method_29_code 201 = .ok (.aload_n 0, 1) := by decide +kernel
theorem d89_202 : decode prog_10_method_29_code 202 = .ok (.getfield 72, 3) := by decide +kernel
theorem d89_205 : decode prog_10_method_29_code 205 = .ok (.iload_n 1, 1) := by decide +kernel
theorem d89_206 : decode prog_10_method_29_code 206 = .ok (.bipush 60, 2) := by decide +kernel
theorem d89_208 : decode prog_10_method_29_code 208 = .ok (.imul, 1) := by decide +kernel
theorem d89_209 : decode prog_10_method_29_code 209 = .ok (.iload 4, 2) := by decide +kernel
theorem d89_211 : decode prog_10_method_29_code 211 = .ok (.iadd, 1) := by decide +kernel
theorem d89_212 : decode prog_10_method_29_code 212 = .ok (.iaload, 1) := by decide +kernel
theorem d89_213 : decode prog_10_method_29_code 213 = .ok (.invokevirtual 165, 3) := by decide +kernel
theorem d89_216 : decode prog_10_method_29_code 216 = .ok (.ifCond .ne 15, 3) := by decide +kernel
theorem d89_219 : decode prog_10_method_29_code 219 = .ok (.aload_n 0, 1) := by decide +kernel
theorem d89_220 : decode prog_10_method_29_code 220 = .ok (.bipush (-2), 2) := by decide +kernel
theorem d89_222 : decode prog_10_method_29_code 222 = .ok (.iload_n 1, 1) := by decide +kernel
theorem d89_223 : decode prog_10_method_29_code 223 = .ok (.iload_n 2, 1) := by decide +kernel
theorem d89_224 : decode prog_10_method_29_code 224 = .ok (.invokevirtual 162, 3) := by decide +kernel
theorem d89_227 : decode prog_10_method_29_code 227 = .ok (.pop, 1) := by decide +kernel
theorem d89_228 : decode prog_10_method_29_code 228 = .ok (.goto 58, 3) := by decide +kernel
theorem d89_231 : decode prog_10_method_29_code 231 = .ok (.aload_n 0, 1) := by decide +kernel
theorem d89_232 : decode prog_10_method_29_code 232 = .ok (.iload_n 1, 1) := by decide +kernel
theorem d89_233 : decode prog_10_method_29_code 233 = .ok (.iload_n 2, 1) := by decide +kernel
theorem d89_234 : decode prog_10_method_29_code 234 = .ok (.sipush 300, 3) := by decide +kernel
theorem d89_237 : decode prog_10_method_29_code 237 = .ok (.iconst 1, 1) := by decide +kernel
theorem d89_238 : decode prog_10_method_29_code 238 = .ok (.aload_n 0, 1) := by decide +kernel
theorem d89_239 : decode prog_10_method_29_code 239 = .ok (.getfield 72, 3) := by decide +kernel
theorem d89_242 : decode prog_10_method_29_code 242 = .ok (.iload_n 1, 1) := by decide +kernel
theorem d89_243 : decode prog_10_method_29_code 243 = .ok (.bipush 60, 2) := by decide +kernel
theorem d89_245 : decode prog_10_method_29_code 245 = .ok (.imul, 1) := by decide +kernel
theorem d89_246 : decode prog_10_method_29_code 246 = .ok (.iload 4, 2) := by decide +kernel
theorem d89_248 : decode prog_10_method_29_code 248 = .ok (.iadd, 1) := by decide +kernel
theorem d89_249 : decode prog_10_method_29_code 249 = .ok (.iaload, 1) := by decide +kernel
theorem d89_250 : decode prog_10_method_29_code 250 = .ok (.ifCond .ge 20, 3) := by decide +kernel
theorem d89_253 : decode prog_10_method_29_code 253 = .ok (.aload_n 0, 1) := by decide +kernel
theorem d89_254 : decode prog_10_method_29_code 254 = .ok (.getfield 72, 3) := by decide +kernel
theorem d89_257 : decode prog_10_method_29_code 257 = .ok (.iload_n 1, 1) := by decide +kernel
theorem d89_258 : decode prog_10_method_29_code 258 = .ok (.bipush 60, 2) := by decide +kernel
theorem d89_260 : decode prog_10_method_29_code 260 = .ok (.imul, 1) := by decide +kernel
theorem d89_261 : decode prog_10_method_29_code 261 = .ok (.iload 4, 2) := by decide +kernel
theorem d89_263 : decode prog_10_method_29_code 263 = .ok (.iadd, 1) := by decide +kernel
theorem d89_264 : decode prog_10_method_29_code 264 = .ok (.iaload, 1) := by decide +kernel
theorem d89_265 : decode prog_10_method_29_code 265 = .ok (.ineg, 1) := by decide +kernel
theorem d89_266 : decode prog_10_method_29_code 266 = .ok (.i2l, 1) := by decide +kernel
theorem d89_267 : decode prog_10_method_29_code 267 = .ok (.goto 16, 3) := by decide +kernel
theorem d89_270 : decode prog_10_method_29_code 270 = .ok (.aload_n 0, 1) := by decide +kernel
theorem d89_271 : decode prog_10_method_29_code 271 = .ok (.getfield 72, 3) := by decide +kernel
theorem d89_274 : decode prog_10_method_29_code 274 = .ok (.iload_n 1, 1) := by decide +kernel
theorem d89_275 : decode prog_10_method_29_code 275 = .ok (.bipush 60, 2) := by decide +kernel
theorem d89_277 : decode prog_10_method_29_code 277 = .ok (.imul, 1) := by decide +kernel
theorem d89_278 : decode prog_10_method_29_code 278 = .ok (.iload 4, 2) := by decide +kernel
theorem d89_280 : decode prog_10_method_29_code 280 = .ok (.iadd, 1) := by decide +kernel
theorem d89_281 : decode prog_10_method_29_code 281 = .ok (.iaload, 1) := by decide +kernel
theorem d89_282 : decode prog_10_method_29_code 282 = .ok (.i2l, 1) := by decide +kernel
theorem d89_283 : decode prog_10_method_29_code 283 = .ok (.invokevirtual 184, 3) := by decide +kernel
theorem d89_286 : decode prog_10_method_29_code 286 = .ok (.return_, 1) := by decide +kernel
theorem d90_0 : decode prog_10_method_30_code 0 = .ok (.aload_n 0, 1) := by decide +kernel
theorem d90_1 : decode prog_10_method_30_code 1 = .ok (.getfield 54, 3) := by decide +kernel
theorem d90_4 : decode prog_10_method_30_code 4 = .ok (.aload_n 0, 1) := by decide +kernel
theorem d90_5 : decode prog_10_method_30_code 5 = .ok (.getfield 57, 3) := by decide +kernel
theorem d90_8 : decode prog_10_method_30_code 8 = .ok (.iload_n 1, 1) := by decide +kernel
theorem d90_9 : decode prog_10_method_30_code 9 = .ok (.iaload, 1) := by decide +kernel
theorem d90_10 : decode prog_10_method_30_code 10 = .ok (.iaload, 1) := by decide +kernel
theorem d90_11 : decode prog_10_method_30_code 11 = .ok (.istore_n 2, 1) := by decide +kernel
theorem d90_12 : decode prog_10_method_30_code 12 = .ok (.iconst 0, 1) := by decide +kernel
theorem d90_13 : decode prog_10_method_30_code 13 = .ok (.istore_n 3, 1) := by decide +kernel
theorem d90_14 : decode prog_10_method_30_code 14 = .ok (.iload_n 3, 1) := by decide +kernel
theorem d90_15 : decode prog_10_method_30_code 15 = .ok (.bipush 61, 2) := by decide +kernel
theorem d90_17 : decode prog_10_method_30_code 17 = .ok (.if_icmp .ge 77, 3) := by decide +kernel
theorem d90_20 : decode prog_10_method_30_code 20 = .ok (.aload_n 0, 1) := by decide +kernel
theorem d90_21 : decode prog_10_method_30_code 21 = .ok (.getfield 66, 3) := by decide +kernel
theorem d90_24 : decode prog_10_method_30_code 24 = .ok (.iload_n 1, 1) := by decide +kernel
theorem d90_25 : decode prog_10_method_30_code 25 = .ok (.bipush 60, 2) := by decide +kernel
theorem d90_27 : decode prog_10_method_30_code 27 = .ok (.imul, 1) := by decide +kernel
theorem d90_28 : decode prog_10_method_30_code 28 = .ok (.iload_n 2, 1) := by decide +kernel
theorem d90_29 : decode prog_10_method_30_code 29 = .ok (.iadd, 1) := by decide +kernel
theorem d90_30 : decode prog_10_method_30_code 30 = .ok (.baload, 1) := by decide +kernel
theorem d90_31 : decode prog_10_method_30_code 31 = .ok (.ifCond .ne 63, 3) := by decide +kernel
theorem d90_34 : decode prog_10_method_30_code 34 = .ok (.aload_n 0, 1) := by decide +kernel
theorem d90_35 : decode prog_10_method_30_code 35 = .ok (.getfield 13, 3) := by decide +kernel
theorem d90_38 : decode prog_10_method_30_code 38 = .ok (.ifCond .ne 56, 3) := by decide +kernel
theorem d90_41 : decode prog_10_method_30_code 41 = .ok (.iload_n 2, 1) := by decide +kernel
theorem d90_42 : decode prog_10_method_30_code 42 = .ok (.istore 4, 2) := by decide +kernel
theorem d90_44 : decode prog_10_method_30_code 44 = .ok (.aload_n 0, 1) := by decide +kernel
theorem d90_45 : decode prog_10_method_30_code 45 = .ok (.iload_n 1, 1) := by decide +kernel
theorem d90_46 : decode prog_10_method_30_code 46 = .ok (.iload 4, 2) := by decide +kernel
theorem d90_48 : decode prog_10_method_30_code 48 = .ok (.invokevirtual 220, 3) := by decide +kernel
theorem d90_51 : decode prog_10_method_30_code 51 = .ok (.istore 5, 2) := by decide +kernel
theorem d90_53 : decode prog_10_method_30_code 53 = .ok (.iload 5, 2) := by decide +kernel
theorem d90_55 : decode prog_10_method_30_code 55 = .ok (.ifCond .lt 19, 3) := by decide +kernel
theorem d90_58 : decode prog_10_method_30_code 58 = .ok (.iload 5, 2) := by decide +kernel
theorem d90_60 : decode prog_10_method_30_code 60 = .ok (.istore 4, 2) := by decide +kernel
theorem d90_62 : decode prog_10_method_30_code 62 = .ok (.aload_n 0, 1) := by decide +kernel
theorem d90_63 : decode prog_10_method_30_code 63 = .ok (.iload_n 1, 1) := by decide +kernel
theorem d90_64 : decode prog_10_method_30_code 64 = .ok (.iload 4, 2) := by decide +kernel
theorem d90_66 : decode prog_10_method_30_code 66 = .ok (.invokevirtual 220, 3) := by decide +kernel
theorem d90_69 : decode prog_10_method_30_code 69 = .ok (.istore 5, 2) := by decide +kernel
theorem d90_71 : decode prog_10_method_30_code 71 = .ok (.goto (-18), 3) := by decide +kernel
theorem d90_74 : decode prog_10_method_30_code 74 = .ok (.aload_n 0, 1) := by decide +kernel
theorem d90_75 : decode prog_10_method_30_code 75 = .ok (.getfield 13, 3) := by decide +kernel
theorem d90_78 : decode prog_10_method_30_code 78 = .ok (.ifCond .ne 10, 3) := by decide +kernel
theorem d90_81 : decode prog_10_method_30_code 81 = .ok (.aload_n 0, 1) := by decide +kernel
theorem d90_82 : decode prog_10_method_30_code 82 = .ok (.iload_n 1, 1) := by decide +kernel
theorem d90_83 : decode prog_10_method_30_code 83 = .ok (.iload 4, 2) := by decide +kernel
theorem d90_85 : decode prog_10_method_30_code 85 = .ok (.invokevirtual 223, 3) := by decide +kernel
theorem d90_88 : decode prog_10_method_30_code 88 = .ok (.iinc 3 1, 3) := by decide +kernel
theorem d90_91 : decode prog_10_method_30_code 91 = .ok (.goto (-77), 3) := by decide +kernel
theorem d90_94 : decode prog_10_method_30_code 94 = .ok (.aload_n 0, 1) := by decide +kernel
theorem d90_95 : decode prog_10_method_30_code 95 = .ok (.getfield 13, 3) := by decide +kernel
theorem d90_98 : decode prog_10_method_30_code 98 = .ok (.ifCond .eq 4, 3) := by decide +kernel
theorem d90_101 : decode prog_10_method_30_code 101 = .ok (.return_, 1) := by decide +kernel
theorem d90_102 : decode prog_10_method_30_code 102 = .ok (.aload_n 0, 1) := by decide +kernel
theorem d90_103 : decode prog_10_method_30_code 103 = .ok (.iload_n 1, 1) := by decide +kernel
theorem d90_104 : decode prog_10_method_30_code 104 = .ok (.iload_n 2, 1) := by decide +kernel
theorem d90_105 : decode prog_10_method_30_code 105 = .ok (.iload_n 2, 1) := by decide +kernel
theorem d90_106 : decode prog_10_method_30_code 106 = .ok (.aload_n 0, 1) := by decide +kernel
theorem d90_107 : decode prog_10_method_30_code 107 = .ok (.iload_n 1, 1) := by decide +kernel
theorem d90_108 : decode prog_10_method_30_code 108 = .ok (.aload_n 0, 1) := by decide +kernel
theorem d90_109 : decode prog_10_method_30_code 109 = .ok (.getfield 51, 3) := by decide +kernel
theorem d90_112 : decode prog_10_method_30_code 112 = .ok (.aload_n 0, 1) := by decide +kernel
theorem d90_113 : decode prog_10_method_30_code 113 = .ok (.getfield 57, 3) := by decide +kernel
theorem d90_116 : decode prog_10_method_30_code 116 = .ok (.iload_n 1, 1) := by decide +kernel
theorem d90_117 : decode prog_10_method_30_code 117 = .ok (.iaload, 1) := by decide +kernel
theorem d90_118 : decode prog_10_method_30_code 118 = .ok (.iaload, 1) := by decide +kernel
theorem d90_119 : decode prog_10_method_30_code 119 = .ok (.invokevirtual 188, 3) := by decide +kernel
theorem d90_122 : decode prog_10_method_30_code 122 = .ok (.invokevirtual 200, 3) := by decide +kernel
theorem d90_125 : decode prog_10_method_30_code 125 = .ok (.pop, 1) := by decide +kernel
theorem d90_126 : decode prog_10_method_30_code 126 = .ok (.return_, 1) := by decide +kernel
theorem d91_0 : decode prog_10_method_31_code 0 = .ok (.iload_n 1, 1) := by decide +kernel
theorem d91_1 : decode prog_10_method_31_code 1 = .ok (.ifCond .lt 18, 3) := by decide +kernel
theorem d91_4 : decode prog_10_method_31_code 4 = .ok (.iload_n 1, 1) := by decide +kernel
theorem d91_5 : decode prog_10_method_31_code 5 = .ok (.bipush 7, 2) := by decide +kernel
theorem d91_7 : decode prog_10_method_31_code 7 = .ok (.if_icmp .gt 12, 3) := by decide +kernel
theorem d91_10 : decode prog_10_method_31_code 10 = .ok (.aload_n 0, 1) := by decide +kernel
theorem d91_11 : decode prog_10_method_31_code 11 = .ok (.getfield 41, 3) := by decide +kernel
theorem d91_14 : decode prog_10_method_31_code 14 = .ok (.iload_n 1, 1) := by decide +kernel
theorem d91_15 : decode prog_10_method_31_code 15 = .ok (.baload, 1) := by decide +kernel
theorem d91_16 : decode prog_10_method_31_code 16 = .ok (.ifCond .ne 5, 3) := by decide +kernel
theorem d91_19 : decode prog_10_method_31_code 19 = .ok (.iconst (-1), 1) := by decide +kernel
theorem d91_20 : decode prog_10_method_31_code 20 = .ok (.ireturn, 1) := by decide +kernel
theorem d91_21 : decode prog_10_method_31_code 21 = .ok (.aload_n 0, 1) := by decide +kernel
theorem d91_22 : decode prog_10_method_31_code 22 = .ok (.iconst 0, 1) := by decide +kernel
theorem d91_23 : decode prog_10_method_31_code 23 = .ok (.putfield 19, 3) := by decide +kernel
theorem d91_26 : decode prog_10_method_31_code 26 = .ok (.aload_n 0, 1) := by decide +kernel
theorem d91_27 : decode prog_10_method_31_code 27 = .ok (.iconst 0, 1) := by decide +kernel
theorem d91_28 : decode prog_10_method_31_code 28 = .ok (.putfield 13, 3) := by decide +kernel
theorem d91_31 : decode prog_10_method_31_code 31 = .ok (.aload_n 0, 1) := by decide +kernel
theorem d91_32 : decode prog_10_method_31_code 32 = .ok (.iconst (-1), 1) := by decide +kernel
theorem d91_33 : decode prog_10_method_31_code 33 = .ok (.putfield 16, 3) := by decide +kernel
theorem d91_36 : decode prog_10_method_31_code 36 = .ok (.aload_n 0, 1) := by decide +kernel
theorem d91_37 : decode prog_10_method_31_code 37 = .ok (.iconst 0, 1) := by decide +kernel
theorem d91_38 : decode prog_10_method_31_code 38 = .ok (.bipush 63, 2) := by decide +kernel
theorem d91_40 : decode prog_10_method_31_code 40 = .ok (.iload_n 1, 1) := by decide +kernel
theorem d91_41 : decode prog_10_method_31_code 41 = .ok (.iload_n 2, 1) := by decide +kernel
theorem d91_42 : decode prog_10_method_31_code 42 = .ok (.i2l, 1) := by decide +kernel
theorem d91_43 : decode prog_10_method_31_code 43 = .ok (.iload_n 3, 1) := by decide +kernel
theorem d91_44 : decode prog_10_method_31_code 44 = .ok (.i2l, 1) := by decide +kernel
theorem d91_45 : decode prog_10_method_31_code 45 = .ok (.invokevirtual 196, 3) := by decide +kernel
theorem d91_48 : decode prog_10_method_31_code 48 = .ok (.pop, 1) := by decide +kernel
theorem d91_49 : decode prog_10_method_31_code 49 = .ok (.iconst 0, 1) := by decide +kernel
theorem d91_50 : decode prog_10_method_31_code 50 = .ok (.istore 4, 2) := by decide +kernel
theorem d91_52 : decode prog_10_method_31_code 52 = .ok (.iload 4, 2) := by decide +kernel
theorem d91_54 : decode prog_10_method_31_code 54 = .ok (.aload_n 0, 1) := by decide +kernel
theorem d91_55 : decode prog_10_method_31_code 55 = .ok (.getfield 19, 3) := by decide +kernel
theorem d91_58 : decode prog_10_method_31_code 58 = .ok (.if_icmp .ge 22, 3) := by decide +kernel
theorem d91_61 : decode prog_10_method_31_code 61 = .ok (.aload_n 0, 1) := by decide +kernel
theorem d91_62 : decode prog_10_method_31_code 62 = .ok (.getfield 13, 3) := by decide +kernel
theorem d91_65 : decode prog_10_method_31_code 65 = .ok (.ifCond .ne 15, 3) := by decide +kernel
theorem d91_68 : decode prog_10_method_31_code 68 = .ok (.aload_n 0, 1) := by decide +kernel
theorem d91_69 : decode prog_10_method_31_code 69 = .ok (.iload 4, 2) := by decide +kernel
theorem d91_71 : decode prog_10_method_31_code 71 = .ok (.invokevirtual 226, 3) := by decide +kernel
theorem d91_74 : decode prog_10_method_31_code 74 = .ok (.iinc 4 1, 3) := by decide +kernel
theorem d91_77 : decode prog_10_method_31_code 77 = .ok (.goto (-25), 3) := by decide +kernel
theorem d91_80 : decode prog_10_method_31_code 80 = .ok (.aload_n 0, 1) := by decide +kernel
theorem d91_81 : decode prog_10_method_31_code 81 = .ok (.getfield 13, 3) := by decide +kernel
theorem d91_84 : decode prog_10_method_31_code 84 = .ok (.ifCond .ne 8, 3) := by decide +kernel
theorem d91_87 : decode prog_10_method_31_code 87 = .ok (.aload_n 0, 1) := by decide +kernel
theorem d91_88 : decode prog_10_method_31_code 88 = .ok (.getfield 19, 3) := by decide +kernel
theorem d91_91 : decode prog_10_method_31_code 91 = .ok (.ireturn, 1) := by decide +kernel
theorem d91_92 : decode prog_10_method_31_code 92 = .ok (.aload_n 0, 1) := by decide +kernel
theorem d91_93 : decode prog_10_method_31_code 93 = .ok (.iconst 0, 1) := by decide +kernel
theorem d91_94 : decode prog_10_method_31_code 94 = .ok (.putfield 19, 3) := by decide +kernel
theorem d91_97 : decode prog_10_method_31_code 97 = .ok (.aload_n 0, 1) := by decide +kernel
theorem d91_98 : decode prog_10_method_31_code 98 = .ok (.getfield 13, 3) := by decide +kernel
theorem d91_101 : decode prog_10_method_31_code 101 = .ok (.ireturn, 1) := by decide +kernel
theorem d92_0 : decode prog_10_method_32_code 0 = .ok (.aload_n 0, 1) := by decide +kernel
theorem d92_1 : decode prog_10_method_32_code 1 = .ok (.getfield 16, 3) := by decide +kernel
theorem d92_4 : decode prog_10_method_32_code 4 = .ok (.ireturn, 1) := by decide +kernel
theorem d93_0 : decode prog_10_method_33_code 0 = .ok (.aload_n 0, 1) := by decide +kernel
theorem d93_1 : decode prog_10_method_33_code 1 = .ok (.getfield 82, 3) := by decide +kernel
theorem d93_4 : decode prog_10_method_33_code 4 = .ok (.aload_n 0, 1) := by decide +kernel
theorem d93_5 : decode prog_10_method_33_code 5 = .ok (.getfield 106, 3) := by decide +kernel
theorem d93_8 : decode prog_10_method_33_code 8 = .ok (.iaload, 1) := by decide +kernel
theorem d93_9 : decode prog_10_method_33_code 9 = .ok (.bipush 60, 2) := by decide +kernel
theorem d93_11 : decode prog_10_method_33_code 11 = .ok (.imul, 1) := by decide +kernel
theorem d93_12 : decode prog_10_method_33_code 12 = .ok (.iload_n 1, 1) := by decide +kernel
theorem d93_13 : decode prog_10_method_33_code 13 = .ok (.iadd, 1) := by decide +kernel
theorem d93_14 : decode prog_10_method_33_code 14 = .ok (.istore_n 2, 1) := by decide +kernel
theorem d93_15 : decode prog_10_method_33_code 15 = .ok (.aload_n 0, 1) := by decide +kernel
theorem d93_16 : decode prog_10_method_33_code 16 = .ok (.dup, 1) := by decide +kernel
theorem d93_17 : decode prog_10_method_33_code 17 = .ok (.getfield 109, 3) := by decide +kernel
theorem d93_20 : decode prog_10_method_33_code 20 = .ok (.iconst 1, 1) := by decide +kernel
theorem d93_21 : decode prog_10_method_33_code 21 = .ok (.iadd, 1) := by decide +kernel
theorem d93_22 : decode prog_10_method_33_code 22 = .ok (.putfield 109, 3) := by decide +kernel
theorem d93_25 : decode prog_10_method_33_code 25 = .ok (.aload_n 0, 1) := by decide +kernel
theorem d93_26 : decode prog_10_method_33_code 26 = .ok (.getfield 109, 3) := by decide +kernel
theorem d93_29 : decode prog_10_method_33_code 29 = .ok (.sipush 3000, 3) := by decide +kernel
theorem d93_32 : decode prog_10_method_33_code 32 = .ok (.if_icmp .le 13, 3) := by decide +kernel
theorem d93_35 : decode prog_10_method_33_code 35 = .ok (.aload_n 0, 1) := by decide +kernel
theorem d93_36 : decode prog_10_method_33_code 36 = .ok (.ldc2_w 230, 3) := by decide +kernel
theorem d93_39 : decode prog_10_method_33_code 39 = .ok (.putfield 116, 3) := by decide +kernel
theorem d93_42 : decode prog_10_method_33_code 42 = .ok (.goto 102, 3) := by decide +kernel
theorem d93_45 : decode prog_10_method_33_code 45 = .ok (.aload_n 0, 1) := by decide +kernel
theorem d93_46 : decode prog_10_method_33_code 46 = .ok (.getfield 69, 3) := by decide +kernel
theorem d93_49 : decode prog_10_method_33_code 49 = .ok (.iload_n 2, 1) := by decide +kernel
theorem d93_50 : decode prog_10_method_33_code 50 = .ok (.baload, 1) := by decide +kernel
theorem d93_51 : decode prog_10_method_33_code 51 = .ok (.ifCond .eq 16, 3) := by decide +kernel
theorem d93_54 : decode prog_10_method_33_code 54 = .ok (.aload_n 0, 1) := by decide +kernel
theorem d93_55 : decode prog_10_method_33_code 55 = .ok (.aload_n 0, 1) := by decide +kernel
theorem d93_56 : decode prog_10_method_33_code 56 = .ok (.getfield 78, 3) := by decide +kernel
theorem d93_59 : decode prog_10_method_33_code 59 = .ok (.iload_n 2, 1) := by decide +kernel
theorem d93_60 : decode prog_10_method_33_code 60 = .ok (.laload, 1) := by decide +kernel
theorem d93_61 : decode prog_10_method_33_code 61 = .ok (.putfield 112, 3) := by decide +kernel
theorem d93_64 : decode prog_10_method_33_code 64 = .ok (.goto 80, 3) := by decide +kernel
theorem d93_67 : decode prog_10_method_33_code 67 = .ok (.aload_n 0, 1) := by decide +kernel
theorem d93_68 : decode prog_10_method_33_code 68 = .ok (.getfield 25, 3) := by decide +kernel
theorem d93_71 : decode prog_10_method_33_code 71 = .ok (.iload_n 1, 1) := by decide +kernel
theorem d93_72 : decode prog_10_method_33_code 72 = .ok (.iaload, 1) := by decide +kernel
theorem d93_73 : decode prog_10_method_33_code 73 = .ok (.iconst 1, 1) := by decide +kernel
theorem d93_74 : decode prog_10_method_33_code 74 = .ok (.if_icmp .ne 40, 3) := by decide +kernel
theorem d93_77 : decode prog_10_method_33_code 77 = .ok (.aload_n 0, 1) := by decide +kernel
theorem d93_78 : decode prog_10_method_33_code 78 = .ok (.aload_n 0, 1) := by decide +kernel
theorem d93_79 : decode prog_10_method_33_code 79 = .ok (.getfield 29, 3) := by decide +kernel
theorem d93_82 : decode prog_10_method_33_code 82 = .ok (.iload_n 1, 1) := by decide +kernel
theorem d93_83 : decode prog_10_method_33_code 83 = .ok (.iaload, 1) := by decide +kernel
theorem d93_84 : decode prog_10_method_33_code 84 = .ok (.ifCond .ne 15, 3) := by decide +kernel
theorem d93_87 : decode prog_10_method_33_code 87 = .ok (.aload_n 0, 1) := by decide +kernel
theorem d93_88 : decode prog_10_method_33_code 88 = .ok (.getfield 91, 3) := by decide +kernel
theorem d93_91 : decode prog_10_method_33_code 91 = .ok (.aload_n 0, 1) := by decide +kernel
theorem d93_92 : decode prog_10_method_33_code 92 = .ok (.getfield 106, 3) := by decide +kernel
theorem d93_95 : decode prog_10_method_33_code 95 = .ok (.laload, 1) := by decide +kernel
theorem d93_96 : decode prog_10_method_33_code 96 = .ok (.goto 12, 3) := by decide +kernel
theorem d93_99 : decode prog_10_method_33_code 99 = .ok (.aload_n 0, 1) := by decide +kernel
theorem d93_100 : decode prog_10_method_33_code 100 = .ok (.getfield 94, 3) := by decide +kernel
theorem d93_103 : decode prog_10_method_33_code 103 = .ok (.aload_n 0, 1) := by decide +kernel
theorem d93_104 : decode prog_10_method_33_code 104 = .ok (.getfield 106, 3) := by decide +kernel
theorem d93_107 : decode prog_10_method_33_code 107 = .ok (.laload, 1) := by decide +kernel
theorem d93_108 : decode prog_10_method_33_code 108 = .ok (.putfield 112, 3) := by decide +kernel
theorem d93_111 : decode prog_10_method_33_code 111 = .ok (.goto 33, 3) := by decide +kernel
theorem d93_114 : decode prog_10_method_33_code 114 = .ok (.aload_n 0, 1) := by decide +kernel
theorem d93_115 : decode prog_10_method_33_code 115 = .ok (.getfield 85, 3) := by decide +kernel
theorem d93_118 : decode prog_10_method_33_code 118 = .ok (.aload_n 0, 1) := by decide +kernel
theorem d93_119 : decode prog_10_method_33_code 119 = .ok (.getfield 103, 3) := by decide +kernel
theorem d93_122 : decode prog_10_method_33_code 122 = .ok (.iload_n 1, 1) := by decide +kernel
theorem d93_123 : decode prog_10_method_33_code 123 = .ok (.iastore, 1) := by decide +kernel
theorem d93_124 : decode prog_10_method_33_code 124 = .ok (.aload_n 0, 1) := by decide +kernel
theorem d93_125 : decode prog_10_method_33_code 125 = .ok (.getfield 88, 3) := by decide +kernel
theorem d93_128 : decode prog_10_method_33_code 128 = .ok (.aload_n 0, 1) := by decide +kernel
theorem d93_129 : decode prog_10_method_33_code 129 = .ok (.getfield 103, 3) := by decide +kernel
theorem d93_132 : decode prog_10_method_33_code 132 = .ok (.iconst 0, 1) := by decide +kernel
theorem d93_133 : decode prog_10_method_33_code 133 = .ok (.iastore, 1) := by decide +kernel
theorem d93_134 : decode prog_10_method_33_code 134 = .ok (.aload_n 0, 1) := by decide +kernel
theorem d93_135 : decode prog_10_method_33_code 135 = .ok (.dup, 1) := by decide +kernel
theorem d93_136 : decode prog_10_method_33_code 136 = .ok (.getfield 103, 3) := by decide +kernel
theorem d93_139 : decode prog_10_method_33_code 139 = .ok (.iconst 1, 1) := by decide +kernel
theorem d93_140 : decode prog_10_method_33_code 140 = .ok (.iadd, 1) := by decide +kernel
theorem d93_141 : decode prog_10_method_33_code 141 = .ok (.putfield 103, 3) := by decide +kernel
theorem d93_144 : decode prog_10_method_33_code 144 = .ok (.return_, 1) := by decide +kernel
theorem d94_0 : decode prog_10_method_34_code 0 = .ok (.aload_n 0, 1) := by decide +kernel
theorem d94_1 : decode prog_10_method_34_code 1 = .ok (.dup, 1) := by decide +kernel
theorem d94_2 : decode prog_10_method_34_code 2 = .ok (.getfield 103, 3) := by decide +kernel
theorem d94_5 : decode prog_10_method_34_code 5 = .ok (.iconst 1, 1) := by decide +kernel
theorem d94_6 : decode prog_10_method_34_code 6 = .ok (.isub, 1) := by decide +kernel
theorem d94_7 : decode prog_10_method_34_code 7 = .ok (.putfield 103, 3) := by decide +kernel
theorem d94_10 : decode prog_10_method_34_code 10 = .ok (.aload_n 0, 1) := by decide +kernel
theorem d94_11 : decode prog_10_method_34_code 11 = .ok (.lload_n 1, 1) := by decide +kernel
theorem d94_12 : decode prog_10_method_34_code 12 = .ok (.putfield 112, 3) := by decide +kernel
theorem d94_15 : decode prog_10_method_34_code 15 = .ok (.return_, 1) := by decide +kernel
theorem d95_0 : decode prog_10_method_35_code 0 = .ok (.aload_n 0, 1) := by decide +kernel
theorem d95_1 : decode prog_10_method_35_code 1 = .ok (.getfield 103, 3) := by decide +kernel
theorem d95_4 : decode prog_10_method_35_code 4 = .ok (.iconst 1, 1) := by decide +kernel
theorem d95_5 : decode prog_10_method_35_code 5 = .ok (.isub, 1) := by decide +kernel
theorem d95_6 : decode prog_10_method_35_code 6 = .ok (.istore_n 2, 1) := by decide +kernel
theorem d95_7 : decode prog_10_method_35_code 7 = .ok (.aload_n 0, 1) := by decide +kernel
theorem d95_8 : decode prog_10_method_35_code 8 = .ok (.getfield 88, 3) := by decide +kernel
theorem d95_11 : decode prog_10_method_35_code 11 = .ok (.iload_n 2, 1) := by decide +kernel
theorem d95_12 : decode prog_10_method_35_code 12 = .ok (.iaload, 1) := by decide +kernel
theorem d95_13 : decode prog_10_method_35_code 13 = .ok (.iconst 1, 1) := by decide +kernel
theorem d95_14 : decode prog_10_method_35_code 14 = .ok (.if_icmp .ne 13, 3) := by decide +kernel
theorem d95_17 : decode prog_10_method_35_code 17 = .ok (.aload_n 0, 1) := by decide +kernel
theorem d95_18 : decode prog_10_method_35_code 18 = .ok (.getfield 97, 3) := by decide +kernel
theorem d95_21 : decode prog_10_method_35_code 21 = .ok (.iload_n 2, 1) := by decide +kernel
theorem d95_22 : decode prog_10_method_35_code 22 = .ok (.aload_n 0, 1) := by decide +kernel
theorem d95_23 : decode prog_10_method_35_code 23 = .ok (.getfield 112, 3) := by decide +kernel
theorem d95_26 : decode prog_10_method_35_code 26 = .ok (.lastore, 1) := by decide +kernel
theorem d95_27 : decode prog_10_method_35_code 27 = .ok (.aload_n 0, 1) := by decide +kernel
theorem d95_28 : decode prog_10_method_35_code 28 = .ok (.getfield 88, 3) := by decide +kernel
theorem d95_31 : decode prog_10_method_35_code 31 = .ok (.iload_n 2, 1) := by decide +kernel
theorem d95_32 : decode prog_10_method_35_code 32 = .ok (.dup2, 1) := by decide +kernel
theorem d95_33 : decode prog_10_method_35_code 33 = .ok (.iaload, 1) := by decide +kernel
theorem d95_34 : decode prog_10_method_35_code 34 = .ok (.iconst 1, 1) := by decide +kernel
theorem d95_35 : decode prog_10_method_35_code 35 = .ok (.iadd, 1) := by decide +kernel
theorem d95_36 : decode prog_10_method_35_code 36 = .ok (.iastore, 1) := by decide +kernel
theorem d95_37 : decode prog_10_method_35_code 37 = .ok (.aload_n 0, 1) := by decide +kernel
theorem d95_38 : decode prog_10_method_35_code 38 = .ok (.getfield 88, 3) := by decide +kernel
theorem d95_41 : decode prog_10_method_35_code 41 = .ok (.iload_n 2, 1) := by decide +kernel
theorem d95_42 : decode prog_10_method_35_code 42 = .ok (.iaload, 1) := by decide +kernel
theorem d95_43 : decode prog_10_method_35_code 43 = .ok (.iconst 1, 1) := by decide +kernel
theorem d95_44 : decode prog_10_method_35_code 44 = .ok (.if_icmp .ne 16, 3) := by decide +kernel
theorem d95_47 : decode prog_10_method_35_code 47 = .ok (.aload_n 0, 1) := by decide +kernel
theorem d95_48 : decode prog_10_method_35_code 48 = .ok (.aload_n 0, 1) := by decide +kernel
theorem d95_49 : decode prog_10_method_35_code 49 = .ok (.getfield 29, 3) := by decide +kernel
theorem d95_52 : decode prog_10_method_35_code 52 = .ok (.iload_n 1, 1) := by decide +kernel
theorem d95_53 : decode prog_10_method_35_code 53 = .ok (.iaload, 1) := by decide +kernel
theorem d95_54 : decode prog_10_method_35_code 54 = .ok (.invokevirtual 232, 3) := by decide +kernel
theorem d95_57 : decode prog_10_method_35_code 57 = .ok (.goto 69, 3) := by decide +kernel
theorem d95_60 : decode prog_10_method_35_code 60 = .ok (.aload_n 0, 1) := by decide +kernel
theorem d95_61 : decode prog_10_method_35_code 61 = .ok (.getfield 88, 3) := by decide +kernel
theorem d95_64 : decode prog_10_method_35_code 64 = .ok (.iload_n 2, 1) := by decide +kernel
theorem d95_65 : decode prog_10_method_35_code 65 = .ok (.iaload, 1) := by decide +kernel
theorem d95_66 : decode prog_10_method_35_code 66 = .ok (.iconst 2, 1) := by decide +kernel
theorem d95_67 : decode prog_10_method_35_code 67 = .ok (.if_icmp .ne 16, 3) := by decide +kernel
theorem d95_70 : decode prog_10_method_35_code 70 = .ok (.aload_n 0, 1) := by decide +kernel
theorem d95_71 : decode prog_10_method_35_code 71 = .ok (.aload_n 0, 1) := by decide +kernel
theorem d95_72 : decode prog_10_method_35_code 72 = .ok (.getfield 32, 3) := by decide +kernel
theorem d95_75 : decode prog_10_method_35_code 75 = .ok (.iload_n 1, 1) := by decide +kernel
theorem d95_76 : decode prog_10_method_35_code 76 = .ok (.iaload, 1) := by decide +kernel
theorem d95_77 : decode prog_10_method_35_code 77 = .ok (.invokevirtual 232, 3) := by decide +kernel
theorem d95_80 : decode prog_10_method_35_code 80 = .ok (.goto 46, 3) := by decide +kernel
theorem d95_83 : decode prog_10_method_35_code 83 = .ok (.aload_n 0, 1) := by decide +kernel
theorem d95_84 : decode prog_10_method_35_code 84 = .ok (.aload_n 0, 1) := by decide +kernel
theorem d95_85 : decode prog_10_method_35_code 85 = .ok (.aload_n 0, 1) := by decide +kernel
theorem d95_86 : decode prog_10_method_35_code 86 = .ok (.getfield 25, 3) := by decide +kernel
theorem d95_89 : decode prog_10_method_35_code 89 = .ok (.iload_n 1, 1) := by decide +kernel
theorem d95_90 : decode prog_10_method_35_code 90 = .ok (.iaload, 1) := by decide +kernel
theorem d95_91 : decode prog_10_method_35_code 91 = .ok (.aload_n 0, 1) := by decide +kernel
theorem d95_92 : decode prog_10_method_35_code 92 = .ok (.getfield 72, 3) := by decide +kernel
theorem d95_95 : decode prog_10_method_35_code 95 = .ok (.aload_n 0, 1) := by decide +kernel
theorem d95_96 : decode prog_10_method_35_code 96 = .ok (.getfield 82, 3) := by decide +kernel
theorem d95_99 : decode prog_10_method_35_code 99 = .ok (.aload_n 0, 1) := by decide +kernel
theorem d95_100 : decode prog_10_method_35_code 100 = .ok (.getfield 106, 3) := by decide +kernel
theorem d95_103 : decode prog_10_method_35_code 103 = .ok (.iaload, 1) := by decide +kernel
theorem d95_104 : decode prog_10_method_35_code 104 = .ok (.bipush 60, 2) := by decide +kernel
theorem d95_106 : decode prog_10_method_35_code 106 = .ok (.imul, 1) := by decide +kernel
theorem d95_107 : decode prog_10_method_35_code 107 = .ok (.iload_n 1, 1) := by decide +kernel
theorem d95_108 : decode prog_10_method_35_code 108 = .ok (.iadd, 1) := by decide +kernel
theorem d95_109 : decode prog_10_method_35_code 109 = .ok (.iaload, 1) := by decide +kernel
theorem d95_110 : decode prog_10_method_35_code 110 = .ok (.aload_n 0, 1) := by decide +kernel
theorem d95_111 : decode prog_10_method_35_code 111 = .ok (.getfield 97, 3) := by decide +kernel
theorem d95_114 : decode prog_10_method_35_code 114 = .ok (.iload_n 2, 1) := by decide +kernel
theorem d95_115 : decode prog_10_method_35_code 115 = .ok (.laload, 1) := by decide +kernel
theorem d95_116 : decode prog_10_method_35_code 116 = .ok (.aload_n 0, 1) := by decide +kernel
theorem d95_117 : decode prog_10_method_35_code 117 = .ok (.getfield 112, 3) := by decide +kernel
theorem d95_120 : decode prog_10_method_35_code 120 = .ok (.invokevirtual 180, 3) := by decide +kernel
theorem d95_123 : decode prog_10_method_35_code 123 = .ok (.invokevirtual 235, 3) := by decide +kernel
theorem d95_126 : decode prog_10_method_35_code 126 = .ok (.return_, 1) := by decide +kernel

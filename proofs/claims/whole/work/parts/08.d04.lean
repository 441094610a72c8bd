/-! decode rows, printed by a program of mine out of the listing -/
theorem d79_0 : decode prog_10_method_19_code 0 = .ok (.aload_n 0, 1) := by decide +kernel
theorem d79_1 : decode prog_10_method_19_code 1 = .ok (.getfield 66, 3) := by decide +kernel
theorem d79_4 : decode prog_10_method_19_code 4 = .ok (.iload_n 1, 1) := by decide +kernel
theorem d79_5 : decode prog_10_method_19_code 5 = .ok (.bipush 60, 2) := by decide +kernel
theorem d79_7 : decode prog_10_method_19_code 7 = .ok (.imul, 1) := by decide +kernel
theorem d79_8 : decode prog_10_method_19_code 8 = .ok (.iload_n 2, 1) := by decide +kernel
theorem d79_9 : decode prog_10_method_19_code 9 = .ok (.iadd, 1) := by decide +kernel
theorem d79_10 : decode prog_10_method_19_code 10 = .ok (.iconst 1, 1) := by decide +kernel
theorem d79_11 : decode prog_10_method_19_code 11 = .ok (.bastore, 1) := by decide +kernel
theorem d79_12 : decode prog_10_method_19_code 12 = .ok (.aload_n 0, 1) := by decide +kernel
theorem d79_13 : decode prog_10_method_19_code 13 = .ok (.getfield 72, 3) := by decide +kernel
theorem d79_16 : decode prog_10_method_19_code 16 = .ok (.iload_n 1, 1) := by decide +kernel
theorem d79_17 : decode prog_10_method_19_code 17 = .ok (.bipush 60, 2) := by decide +kernel
theorem d79_19 : decode prog_10_method_19_code 19 = .ok (.imul, 1) := by decide +kernel
theorem d79_20 : decode prog_10_method_19_code 20 = .ok (.iload_n 2, 1) := by decide +kernel
theorem d79_21 : decode prog_10_method_19_code 21 = .ok (.iadd, 1) := by decide +kernel
theorem d79_22 : decode prog_10_method_19_code 22 = .ok (.iload_n 3, 1) := by decide +kernel
theorem d79_23 : decode prog_10_method_19_code 23 = .ok (.iastore, 1) := by decide +kernel
theorem d79_24 : decode prog_10_method_19_code 24 = .ok (.aload_n 0, 1) := by decide +kernel
theorem d79_25 : decode prog_10_method_19_code 25 = .ok (.getfield 69, 3) := by decide +kernel
theorem d79_28 : decode prog_10_method_19_code 28 = .ok (.iload_n 1, 1) := by decide +kernel
theorem d79_29 : decode prog_10_method_19_code 29 = .ok (.bipush 60, 2) := by decide +kernel
theorem d79_31 : decode prog_10_method_19_code 31 = .ok (.imul, 1) := by decide +kernel
theorem d79_32 : decode prog_10_method_19_code 32 = .ok (.iload_n 2, 1) := by decide +kernel
theorem d79_33 : decode prog_10_method_19_code 33 = .ok (.iadd, 1) := by decide +kernel
theorem d79_34 : decode prog_10_method_19_code 34 = .ok (.iload 4, 2) := by decide +kernel
theorem d79_36 : decode prog_10_method_19_code 36 = .ok (.bastore, 1) := by decide +kernel
theorem d79_37 : decode prog_10_method_19_code 37 = .ok (.aload_n 0, 1) := by decide +kernel
theorem d79_38 : decode prog_10_method_19_code 38 = .ok (.getfield 78, 3) := by decide +kernel
theorem d79_41 : decode prog_10_method_19_code 41 = .ok (.iload_n 1, 1) := by decide +kernel
theorem d79_42 : decode prog_10_method_19_code 42 = .ok (.bipush 60, 2) := by decide +kernel
theorem d79_44 : decode prog_10_method_19_code 44 = .ok (.imul, 1) := by decide +kernel
theorem d79_45 : decode prog_10_method_19_code 45 = .ok (.iload_n 2, 1) := by decide +kernel
theorem d79_46 : decode prog_10_method_19_code 46 = .ok (.iadd, 1) := by decide +kernel
theorem d79_47 : decode prog_10_method_19_code 47 = .ok (.iload 4, 2) := by decide +kernel
theorem d79_49 : decode prog_10_method_19_code 49 = .ok (.ifCond .eq 8, 3) := by decide +kernel
theorem d79_52 : decode prog_10_method_19_code 52 = .ok (.lload 5, 2) := by decide +kernel
theorem d79_54 : decode prog_10_method_19_code 54 = .ok (.goto 4, 3) := by decide +kernel
theorem d79_57 : decode prog_10_method_19_code 57 = .ok (.lconst 0, 1) := by decide +kernel
theorem d79_58 : decode prog_10_method_19_code 58 = .ok (.lastore, 1) := by decide +kernel
theorem d79_59 : decode prog_10_method_19_code 59 = .ok (.return_, 1) := by decide +kernel
theorem d80_0 : decode prog_10_method_20_code 0 = .ok (.aload_n 0, 1) := by decide +kernel
theorem d80_1 : decode prog_10_method_20_code 1 = .ok (.getfield 72, 3) := by decide +kernel
theorem d80_4 : decode prog_10_method_20_code 4 = .ok (.iload_n 1, 1) := by decide +kernel
theorem d80_5 : decode prog_10_method_20_code 5 = .ok (.bipush 60, 2) := by decide +kernel
theorem d80_7 : decode prog_10_method_20_code 7 = .ok (.imul, 1) := by decide +kernel
theorem d80_8 : decode prog_10_method_20_code 8 = .ok (.iload_n 3, 1) := by decide +kernel
theorem d80_9 : decode prog_10_method_20_code 9 = .ok (.iadd, 1) := by decide +kernel
theorem d80_10 : decode prog_10_method_20_code 10 = .ok (.iaload, 1) := by decide +kernel
theorem d80_11 : decode prog_10_method_20_code 11 = .ok (.istore 5, 2) := by decide +kernel
theorem d80_13 : decode prog_10_method_20_code 13 = .ok (.aload_n 0, 1) := by decide +kernel
theorem d80_14 : decode prog_10_method_20_code 14 = .ok (.getfield 72, 3) := by decide +kernel
theorem d80_17 : decode prog_10_method_20_code 17 = .ok (.iload_n 1, 1) := by decide +kernel
theorem d80_18 : decode prog_10_method_20_code 18 = .ok (.bipush 60, 2) := by decide +kernel
theorem d80_20 : decode prog_10_method_20_code 20 = .ok (.imul, 1) := by decide +kernel
theorem d80_21 : decode prog_10_method_20_code 21 = .ok (.iload 4, 2) := by decide +kernel
theorem d80_23 : decode prog_10_method_20_code 23 = .ok (.iadd, 1) := by decide +kernel
theorem d80_24 : decode prog_10_method_20_code 24 = .ok (.iaload, 1) := by decide +kernel
theorem d80_25 : decode prog_10_method_20_code 25 = .ok (.istore 6, 2) := by decide +kernel
theorem d80_27 : decode prog_10_method_20_code 27 = .ok (.iload 5, 2) := by decide +kernel
theorem d80_29 : decode prog_10_method_20_code 29 = .ok (.iload 6, 2) := by decide +kernel
theorem d80_31 : decode prog_10_method_20_code 31 = .ok (.if_icmp .ne 6, 3) := by decide +kernel
theorem d80_34 : decode prog_10_method_20_code 34 = .ok (.iload 5, 2) := by decide +kernel
theorem d80_36 : decode prog_10_method_20_code 36 = .ok (.ireturn, 1) := by decide +kernel
theorem d80_37 : decode prog_10_method_20_code 37 = .ok (.iload 5, 2) := by decide +kernel
theorem d80_39 : decode prog_10_method_20_code 39 = .ok (.sipush 300, 3) := by decide +kernel
theorem d80_42 : decode prog_10_method_20_code 42 = .ok (.if_icmp .ne 12, 3) := by decide +kernel
theorem d80_45 : decode prog_10_method_20_code 45 = .ok (.aload_n 0, 1) := by decide +kernel
theorem d80_46 : decode prog_10_method_20_code 46 = .ok (.iload 6, 2) := by decide +kernel
theorem d80_48 : decode prog_10_method_20_code 48 = .ok (.invokevirtual 165, 3) := by decide +kernel
theorem d80_51 : decode prog_10_method_20_code 51 = .ok (.ifCond .ne 20, 3) := by decide +kernel
theorem d80_54 : decode prog_10_method_20_code 54 = .ok (.iload 6, 2) := by decide +kernel
theorem d80_56 : decode prog_10_method_20_code 56 = .ok (.sipush 300, 3) := by decide +kernel
theorem d80_59 : decode prog_10_method_20_code 59 = .ok (.if_icmp .ne 16, 3) := by decide +kernel
theorem d80_62 : decode prog_10_method_20_code 62 = .ok (.aload_n 0, 1) := by decide +kernel
theorem d80_63 : decode prog_10_method_20_code 63 = .ok (.iload 5, 2) := by decide +kernel
theorem d80_65 : decode prog_10_method_20_code 65 = .ok (.invokevirtual 165, 3) := by decide +kernel
theorem d80_68 : decode prog_10_method_20_code 68 = .ok (.ifCond .eq 7, 3) := by decide +kernel
theorem d80_71 : decode prog_10_method_20_code 71 = .ok (.iconst 1, 1) := by decide +kernel
theorem d80_72 : decode prog_10_method_20_code 72 = .ok (.goto 4, 3) := by decide +kernel
theorem d80_75 : decode prog_10_method_20_code 75 = .ok (.iconst 0, 1) := by decide +kernel
theorem d80_76 : decode prog_10_method_20_code 76 = .ok (.istore 7, 2) := by decide +kernel
theorem d80_78 : decode prog_10_method_20_code 78 = .ok (.iload 7, 2) := by decide +kernel
theorem d80_80 : decode prog_10_method_20_code 80 = .ok (.ifCond .ne 15, 3) := by decide +kernel
theorem d80_83 : decode prog_10_method_20_code 83 = .ok (.aload_n 0, 1) := by decide +kernel
theorem d80_84 : decode prog_10_method_20_code 84 = .ok (.bipush (-2), 2) := by decide +kernel
theorem d80_86 : decode prog_10_method_20_code 86 = .ok (.iload_n 1, 1) := by decide +kernel
theorem d80_87 : decode prog_10_method_20_code 87 = .ok (.iload_n 2, 1) := by decide +kernel
theorem d80_88 : decode prog_10_method_20_code 88 = .ok (.invokevirtual 162, 3) := by decide +kernel
theorem d80_91 : decode prog_10_method_20_code 91 = .ok (.pop, 1) := by decide +kernel
theorem d80_92 : decode prog_10_method_20_code 92 = .ok (.goto 58, 3) := by decide +kernel
theorem d80_95 : decode prog_10_method_20_code 95 = .ok (.aload_n 0, 1) := by decide +kernel
theorem d80_96 : decode prog_10_method_20_code 96 = .ok (.iload 5, 2) := by decide +kernel
theorem d80_98 : decode prog_10_method_20_code 98 = .ok (.sipush 300, 3) := by decide +kernel
theorem d80_101 : decode prog_10_method_20_code 101 = .ok (.if_icmp .ne 8, 3) := by decide +kernel
theorem d80_104 : decode prog_10_method_20_code 104 = .ok (.iload 6, 2) := by decide +kernel
theorem d80_106 : decode prog_10_method_20_code 106 = .ok (.goto 5, 3) := by decide +kernel
theorem d80_109 : decode prog_10_method_20_code 109 = .ok (.iload 5, 2) := by decide +kernel
theorem d80_111 : decode prog_10_method_20_code 111 = .ok (.aload_n 0, 1) := by decide +kernel
theorem d80_112 : decode prog_10_method_20_code 112 = .ok (.getfield 78, 3) := by decide +kernel
theorem d80_115 : decode prog_10_method_20_code 115 = .ok (.iload_n 1, 1) := by decide +kernel
theorem d80_116 : decode prog_10_method_20_code 116 = .ok (.bipush 60, 2) := by decide +kernel
theorem d80_118 : decode prog_10_method_20_code 118 = .ok (.imul, 1) := by decide +kernel
theorem d80_119 : decode prog_10_method_20_code 119 = .ok (.iload 5, 2) := by decide +kernel
theorem d80_121 : decode prog_10_method_20_code 121 = .ok (.sipush 300, 3) := by decide +kernel
theorem d80_124 : decode prog_10_method_20_code 124 = .ok (.if_icmp .ne 7, 3) := by decide +kernel
theorem d80_127 : decode prog_10_method_20_code 127 = .ok (.iload_n 3, 1) := by decide +kernel
theorem d80_128 : decode prog_10_method_20_code 128 = .ok (.goto 5, 3) := by decide +kernel
theorem d80_131 : decode prog_10_method_20_code 131 = .ok (.iload 4, 2) := by decide +kernel
theorem d80_133 : decode prog_10_method_20_code 133 = .ok (.iadd, 1) := by decide +kernel
theorem d80_134 : decode prog_10_method_20_code 134 = .ok (.laload, 1) := by decide +kernel
theorem d80_135 : decode prog_10_method_20_code 135 = .ok (.invokevirtual 168, 3) := by decide +kernel
theorem d80_138 : decode prog_10_method_20_code 138 = .ok (.ifCond .ne 12, 3) := by decide +kernel
theorem d80_141 : decode prog_10_method_20_code 141 = .ok (.aload_n 0, 1) := by decide +kernel
theorem d80_142 : decode prog_10_method_20_code 142 = .ok (.bipush (-3), 2) := by decide +kernel
theorem d80_144 : decode prog_10_method_20_code 144 = .ok (.iload_n 1, 1) := by decide +kernel
theorem d80_145 : decode prog_10_method_20_code 145 = .ok (.iload_n 2, 1) := by decide +kernel
theorem d80_146 : decode prog_10_method_20_code 146 = .ok (.invokevirtual 162, 3) := by decide +kernel
theorem d80_149 : decode prog_10_method_20_code 149 = .ok (.pop, 1) := by decide +kernel
theorem d80_150 : decode prog_10_method_20_code 150 = .ok (.aload_n 0, 1) := by decide +kernel
theorem d80_151 : decode prog_10_method_20_code 151 = .ok (.getfield 13, 3) := by decide +kernel
theorem d80_154 : decode prog_10_method_20_code 154 = .ok (.ifCond .eq 9, 3) := by decide +kernel
theorem d80_157 : decode prog_10_method_20_code 157 = .ok (.sipush 500, 3) := by decide +kernel
theorem d80_160 : decode prog_10_method_20_code 160 = .ok (.goto 18, 3) := by decide +kernel
theorem d80_163 : decode prog_10_method_20_code 163 = .ok (.iload 5, 2) := by decide +kernel
theorem d80_165 : decode prog_10_method_20_code 165 = .ok (.sipush 300, 3) := by decide +kernel
theorem d80_168 : decode prog_10_method_20_code 168 = .ok (.if_icmp .ne 8, 3) := by decide +kernel
theorem d80_171 : decode prog_10_method_20_code 171 = .ok (.iload 6, 2) := by decide +kernel
theorem d80_173 : decode prog_10_method_20_code 173 = .ok (.goto 5, 3) := by decide +kernel
theorem d80_176 : decode prog_10_method_20_code 176 = .ok (.iload 5, 2) := by decide +kernel
theorem d80_178 : decode prog_10_method_20_code 178 = .ok (.ireturn, 1) := by decide +kernel
theorem d81_0 : decode prog_10_method_21_code 0 = .ok (.iload_n 1, 1) := by decide +kernel
theorem d81_1 : decode prog_10_method_21_code 1 = .ok (.bipush 11, 2) := by decide +kernel
theorem d81_3 : decode prog_10_method_21_code 3 = .ok (.if_icmp .ne 16, 3) := by decide +kernel
theorem d81_6 : decode prog_10_method_21_code 6 = .ok (.lload_n 3, 1) := by decide +kernel
theorem d81_7 : decode prog_10_method_21_code 7 = .ok (.lload 5, 2) := by decide +kernel
theorem d81_9 : decode prog_10_method_21_code 9 = .ok (.lcmp, 1) := by decide +kernel
theorem d81_10 : decode prog_10_method_21_code 10 = .ok (.ifCond .ge 7, 3) := by decide +kernel
theorem d81_13 : decode prog_10_method_21_code 13 = .ok (.lconst 1, 1) := by decide +kernel
theorem d81_14 : decode prog_10_method_21_code 14 = .ok (.goto 4, 3) := by decide +kernel
theorem d81_17 : decode prog_10_method_21_code 17 = .ok (.lconst 0, 1) := by decide +kernel
theorem d81_18 : decode prog_10_method_21_code 18 = .ok (.lreturn, 1) := by decide +kernel
theorem d81_19 : decode prog_10_method_21_code 19 = .ok (.iload_n 1, 1) := by decide +kernel
theorem d81_20 : decode prog_10_method_21_code 20 = .ok (.bipush 12, 2) := by decide +kernel
theorem d81_22 : decode prog_10_method_21_code 22 = .ok (.if_icmp .ne 16, 3) := by decide +kernel
theorem d81_25 : decode prog_10_method_21_code 25 = .ok (.lload_n 3, 1) := by decide +kernel
theorem d81_26 : decode prog_10_method_21_code 26 = .ok (.lload 5, 2) := by decide +kernel
theorem d81_28 : decode prog_10_method_21_code 28 = .ok (.lcmp, 1) := by decide +kernel
theorem d81_29 : decode prog_10_method_21_code 29 = .ok (.ifCond .ne 7, 3) := by decide +kernel
theorem d81_32 : decode prog_10_method_21_code 32 = .ok (.lconst 1, 1) := by decide +kernel
theorem d81_33 : decode prog_10_method_21_code 33 = .ok (.goto 4, 3) := by decide +kernel
theorem d81_36 : decode prog_10_method_21_code 36 = .ok (.lconst 0, 1) := by decide +kernel
theorem d81_37 : decode prog_10_method_21_code 37 = .ok (.lreturn, 1) := by decide +kernel
theorem d81_38 : decode prog_10_method_21_code 38 = .ok (.iload_n 1, 1) := by decide +kernel
theorem d81_39 : decode prog_10_method_21_code 39 = .ok (.iconst 5, 1) := by decide +kernel
theorem d81_40 : decode prog_10_method_21_code 40 = .ok (.if_icmp .ne 19, 3) := by decide +kernel
theorem d81_43 : decode prog_10_method_21_code 43 = .ok (.lload 5, 2) := by decide +kernel
theorem d81_45 : decode prog_10_method_21_code 45 = .ok (.lconst 0, 1) := by decide +kernel
theorem d81_46 : decode prog_10_method_21_code 46 = .ok (.lcmp, 1) := by decide +kernel
theorem d81_47 : decode prog_10_method_21_code 47 = .ok (.ifCond .ne 12, 3) := by decide +kernel
theorem d81_50 : decode prog_10_method_21_code 50 = .ok (.aload_n 0, 1) := by decide +kernel
theorem d81_51 : decode prog_10_method_21_code 51 = .ok (.ldc2_w 172, 3) := by decide +kernel
theorem d81_54 : decode prog_10_method_21_code 54 = .ok (.putfield 116, 3) := by decide +kernel
theorem d81_57 : decode prog_10_method_21_code 57 = .ok (.lconst 0, 1) := by decide +kernel
theorem d81_58 : decode prog_10_method_21_code 58 = .ok (.lreturn, 1) := by decide +kernel
theorem d81_59 : decode prog_10_method_21_code 59 = .ok (.iload_n 1, 1) := by decide +kernel
theorem d81_60 : decode prog_10_method_21_code 60 = .ok (.bipush 6, 2) := by decide +kernel
theorem d81_62 : decode prog_10_method_21_code 62 = .ok (.if_icmp .ge 7, 3) := by decide +kernel
theorem d81_65 : decode prog_10_method_21_code 65 = .ok (.iload_n 1, 1) := by decide +kernel
theorem d81_66 : decode prog_10_method_21_code 66 = .ok (.goto 19, 3) := by decide +kernel
theorem d81_69 : decode prog_10_method_21_code 69 = .ok (.iload_n 1, 1) := by decide +kernel
theorem d81_70 : decode prog_10_method_21_code 70 = .ok (.bipush 9, 2) := by decide +kernel
theorem d81_72 : decode prog_10_method_21_code 72 = .ok (.if_icmp .ge 9, 3) := by decide +kernel
theorem d81_75 : decode prog_10_method_21_code 75 = .ok (.iload_n 1, 1) := by decide +kernel
theorem d81_76 : decode prog_10_method_21_code 76 = .ok (.iconst 4, 1) := by decide +kernel
theorem d81_77 : decode prog_10_method_21_code 77 = .ok (.isub, 1) := by decide +kernel
theorem d81_78 : decode prog_10_method_21_code 78 = .ok (.goto 7, 3) := by decide +kernel
theorem d81_81 : decode prog_10_method_21_code 81 = .ok (.iload_n 1, 1) := by decide +kernel
theorem d81_82 : decode prog_10_method_21_code 82 = .ok (.bipush 7, 2) := by decide +kernel
theorem d81_84 : decode prog_10_method_21_code 84 = .ok (.isub, 1) := by decide +kernel
theorem d81_85 : decode prog_10_method_21_code 85 = .ok (.istore 7, 2) := by decide +kernel
theorem d81_87 : decode prog_10_method_21_code 87 = .ok (.iload 7, 2) := by decide +kernel
theorem d81_89 : decode prog_10_method_21_code 89 = .ok (.iconst 2, 1) := by decide +kernel
theorem d81_90 : decode prog_10_method_21_code 90 = .ok (.if_icmp .ne 10, 3) := by decide +kernel
theorem d81_93 : decode prog_10_method_21_code 93 = .ok (.lload_n 3, 1) := by decide +kernel
theorem d81_94 : decode prog_10_method_21_code 94 = .ok (.lload 5, 2) := by decide +kernel
theorem d81_96 : decode prog_10_method_21_code 96 = .ok (.ladd, 1) := by decide +kernel
theorem d81_97 : decode prog_10_method_21_code 97 = .ok (.goto 44, 3) := by decide +kernel
theorem d81_100 : decode prog_10_method_21_code 100 = .ok (.iload 7, 2) := by decide +kernel
theorem d81_102 : decode prog_10_method_21_code 102 = .ok (.iconst 3, 1) := by decide +kernel
theorem d81_103 : decode prog_10_method_21_code 103 = .ok (.if_icmp .ne 10, 3) := by decide +kernel
theorem d81_106 : decode prog_10_method_21_code 106 = .ok (.lload_n 3, 1) := by decide +kernel
theorem d81_107 : decode prog_10_method_21_code 107 = .ok (.lload 5, 2) := by decide +kernel
theorem d81_109 : decode prog_10_method_21_code 109 = .ok (.lsub, 1) := by decide +kernel
theorem d81_110 : decode prog_10_method_21_code 110 = .ok (.goto 31, 3) := by decide +kernel
theorem d81_113 : decode prog_10_method_21_code 113 = .ok (.iload 7, 2) := by decide +kernel
theorem d81_115 : decode prog_10_method_21_code 115 = .ok (.iconst 4, 1) := by decide +kernel
theorem d81_116 : decode prog_10_method_21_code 116 = .ok (.if_icmp .ne 10, 3) := by decide +kernel
theorem d81_119 : decode prog_10_method_21_code 119 = .ok (.lload_n 3, 1) := by decide +kernel
theorem d81_120 : decode prog_10_method_21_code 120 = .ok (.lload 5, 2) := by decide +kernel
theorem d81_122 : decode prog_10_method_21_code 122 = .ok (.lmul, 1) := by decide +kernel
theorem d81_123 : decode prog_10_method_21_code 123 = .ok (.goto 18, 3) := by decide +kernel
theorem d81_126 : decode prog_10_method_21_code 126 = .ok (.lload 5, 2) := by decide +kernel
theorem d81_128 : decode prog_10_method_21_code 128 = .ok (.lconst 0, 1) := by decide +kernel
theorem d81_129 : decode prog_10_method_21_code 129 = .ok (.lcmp, 1) := by decide +kernel
theorem d81_130 : decode prog_10_method_21_code 130 = .ok (.ifCond .ne 7, 3) := by decide +kernel
theorem d81_133 : decode prog_10_method_21_code 133 = .ok (.lconst 0, 1) := by decide +kernel
theorem d81_134 : decode prog_10_method_21_code 134 = .ok (.goto 7, 3) := by decide +kernel
theorem d81_137 : decode prog_10_method_21_code 137 = .ok (.lload_n 3, 1) := by decide +kernel
theorem d81_138 : decode prog_10_method_21_code 138 = .ok (.lload 5, 2) := by decide +kernel
theorem d81_140 : decode prog_10_method_21_code 140 = .ok (.ldiv, 1) := by decide +kernel
theorem d81_141 : decode prog_10_method_21_code 141 = .ok (.lstore 8, 2) := by decide +kernel
theorem d81_143 : decode prog_10_method_21_code 143 = .ok (.aload_n 0, 1) := by decide +kernel
theorem d81_144 : decode prog_10_method_21_code 144 = .ok (.iload_n 2, 1) := by decide +kernel
theorem d81_145 : decode prog_10_method_21_code 145 = .ok (.lload 8, 2) := by decide +kernel
theorem d81_147 : decode prog_10_method_21_code 147 = .ok (.invokevirtual 168, 3) := by decide +kernel
theorem d81_150 : decode prog_10_method_21_code 150 = .ok (.ifCond .eq 6, 3) := by decide +kernel
theorem d81_153 : decode prog_10_method_21_code 153 = .ok (.lload 8, 2) := by decide +kernel
theorem d81_155 : decode prog_10_method_21_code 155 = .ok (.lreturn, 1) := by decide +kernel
theorem d81_156 : decode prog_10_method_21_code 156 = .ok (.iload_n 1, 1) := by decide +kernel
theorem d81_157 : decode prog_10_method_21_code 157 = .ok (.bipush 6, 2) := by decide +kernel
theorem d81_159 : decode prog_10_method_21_code 159 = .ok (.if_icmp .ge 10, 3) := by decide +kernel
theorem d81_162 : decode prog_10_method_21_code 162 = .ok (.aload_n 0, 1) := by decide +kernel
theorem d81_163 : decode prog_10_method_21_code 163 = .ok (.ldc2_w 174, 3) := by decide +kernel
theorem d81_166 : decode prog_10_method_21_code 166 = .ok (.putfield 116, 3) := by decide +kernel
theorem d81_169 : decode prog_10_method_21_code 169 = .ok (.iload_n 1, 1) := by decide +kernel
theorem d81_170 : decode prog_10_method_21_code 170 = .ok (.bipush 8, 2) := by decide +kernel
theorem d81_172 : decode prog_10_method_21_code 172 = .ok (.if_icmp .le 28, 3) := by decide +kernel
theorem d81_175 : decode prog_10_method_21_code 175 = .ok (.lload 8, 2) := by decide +kernel
theorem d81_177 : decode prog_10_method_21_code 177 = .ok (.aload_n 0, 1) := by decide +kernel
theorem d81_178 : decode prog_10_method_21_code 178 = .ok (.iload_n 2, 1) := by decide +kernel
theorem d81_179 : decode prog_10_method_21_code 179 = .ok (.invokevirtual 152, 3) := by decide +kernel
theorem d81_182 : decode prog_10_method_21_code 182 = .ok (.lcmp, 1) := by decide +kernel
theorem d81_183 : decode prog_10_method_21_code 183 = .ok (.ifCond .ge 11, 3) := by decide +kernel
theorem d81_186 : decode prog_10_method_21_code 186 = .ok (.aload_n 0, 1) := by decide +kernel
theorem d81_187 : decode prog_10_method_21_code 187 = .ok (.iload_n 2, 1) := by decide +kernel
theorem d81_188 : decode prog_10_method_21_code 188 = .ok (.invokevirtual 152, 3) := by decide +kernel
theorem d81_191 : decode prog_10_method_21_code 191 = .ok (.goto 8, 3) := by decide +kernel
theorem d81_194 : decode prog_10_method_21_code 194 = .ok (.aload_n 0, 1) := by decide +kernel
theorem d81_195 : decode prog_10_method_21_code 195 = .ok (.iload_n 2, 1) := by decide +kernel
theorem d81_196 : decode prog_10_method_21_code 196 = .ok (.invokevirtual 156, 3) := by decide +kernel
theorem d81_199 : decode prog_10_method_21_code 199 = .ok (.lreturn, 1) := by decide +kernel
theorem d81_200 : decode prog_10_method_21_code 200 = .ok (.aload_n 0, 1) := by decide +kernel
theorem d81_201 : decode prog_10_method_21_code 201 = .ok (.iload_n 2, 1) := by decide +kernel
theorem d81_202 : decode prog_10_method_21_code 202 = .ok (.invokevirtual 156, 3) := by decide +kernel
theorem d81_205 : decode prog_10_method_21_code 205 = .ok (.aload_n 0, 1) := by decide +kernel
theorem d81_206 : decode prog_10_method_21_code 206 = .ok (.iload_n 2, 1) := by decide +kernel
theorem d81_207 : decode prog_10_method_21_code 207 = .ok (.invokevirtual 152, 3) := by decide +kernel
theorem d81_210 : decode prog_10_method_21_code 210 = .ok (.lsub, 1) := by decide +kernel
theorem d81_211 : decode prog_10_method_21_code 211 = .ok (.lconst 1, 1) := by decide +kernel
theorem d81_212 : decode prog_10_method_21_code 212 = .ok (.ladd, 1) := by decide +kernel
theorem d81_213 : decode prog_10_method_21_code 213 = .ok (.lstore 10, 2) := by decide +kernel
theorem d81_215 : decode prog_10_method_21_code 215 = .ok (.lload 8, 2) := by decide +kernel
theorem d81_217 : decode prog_10_method_21_code 217 = .ok (.aload_n 0, 1) := by decide +kernel
theorem d81_218 : decode prog_10_method_21_code 218 = .ok (.iload_n 2, 1) := by decide +kernel
theorem d81_219 : decode prog_10_method_21_code 219 = .ok (.invokevirtual 152, 3) := by decide +kernel
theorem d81_222 : decode prog_10_method_21_code 222 = .ok (.lsub, 1) := by decide +kernel
theorem d81_223 : decode prog_10_method_21_code 223 = .ok (.lload 10, 2) := by decide +kernel
theorem d81_225 : decode prog_10_method_21_code 225 = .ok (.lrem, 1) := by decide +kernel
theorem d81_226 : decode prog_10_method_21_code 226 = .ok (.lstore 12, 2) := by decide +kernel
theorem d81_228 : decode prog_10_method_21_code 228 = .ok (.aload_n 0, 1) := by decide +kernel
theorem d81_229 : decode prog_10_method_21_code 229 = .ok (.iload_n 2, 1) := by decide +kernel
theorem d81_230 : decode prog_10_method_21_code 230 = .ok (.invokevirtual 152, 3) := by decide +kernel
theorem d81_233 : decode prog_10_method_21_code 233 = .ok (.lload 12, 2) := by decide +kernel
theorem d81_235 : decode prog_10_method_21_code 235 = .ok (.lconst 0, 1) := by decide +kernel
theorem d81_236 : decode prog_10_method_21_code 236 = .ok (.lcmp, 1) := by decide +kernel
theorem d81_237 : decode prog_10_method_21_code 237 = .ok (.ifCond .ge 11, 3) := by decide +kernel
theorem d81_240 : decode prog_10_method_21_code 240 = .ok (.lload 12, 2) := by decide +kernel
theorem d81_242 : decode prog_10_method_21_code 242 = .ok (.lload 10, 2) := by decide +kernel
theorem d81_244 : decode prog_10_method_21_code 244 = .ok (.ladd, 1) := by decide +kernel
theorem d81_245 : decode prog_10_method_21_code 245 = .ok (.goto 5, 3) := by decide +kernel
theorem d81_248 : decode prog_10_method_21_code 248 = .ok (.lload 12, 2) := by decide +kernel
theorem d81_250 : decode prog_10_method_21_code 250 = .ok (.ladd, 1) := by decide +kernel
theorem d81_251 : decode prog_10_method_21_code 251 = .ok (.lreturn, 1) := by decide +kernel
theorem d82_0 : decode prog_10_method_22_code 0 = .ok (.aload_n 0, 1) := by decide +kernel
theorem d82_1 : decode prog_10_method_22_code 1 = .ok (.getfield 25, 3) := by decide +kernel
theorem d82_4 : decode prog_10_method_22_code 4 = .ok (.iload_n 2, 1) := by decide +kernel
theorem d82_5 : decode prog_10_method_22_code 5 = .ok (.iaload, 1) := by decide +kernel
theorem d82_6 : decode prog_10_method_22_code 6 = .ok (.istore_n 3, 1) := by decide +kernel
theorem d82_7 : decode prog_10_method_22_code 7 = .ok (.iload_n 1, 1) := by decide +kernel
theorem d82_8 : decode prog_10_method_22_code 8 = .ok (.bipush 60, 2) := by decide +kernel
theorem d82_10 : decode prog_10_method_22_code 10 = .ok (.imul, 1) := by decide +kernel
theorem d82_11 : decode prog_10_method_22_code 11 = .ok (.aload_n 0, 1) := by decide +kernel
theorem d82_12 : decode prog_10_method_22_code 12 = .ok (.getfield 29, 3) := by decide +kernel
theorem d82_15 : decode prog_10_method_22_code 15 = .ok (.iload_n 2, 1) := by decide +kernel
theorem d82_16 : decode prog_10_method_22_code 16 = .ok (.iaload, 1) := by decide +kernel
theorem d82_17 : decode prog_10_method_22_code 17 = .ok (.iadd, 1) := by decide +kernel
theorem d82_18 : decode prog_10_method_22_code 18 = .ok (.istore 4, 2) := by decide +kernel
theorem d82_20 : decode prog_10_method_22_code 20 = .ok (.iload_n 1, 1) := by decide +kernel
theorem d82_21 : decode prog_10_method_22_code 21 = .ok (.bipush 60, 2) := by decide +kernel
theorem d82_23 : decode prog_10_method_22_code 23 = .ok (.imul, 1) := by decide +kernel
theorem d82_24 : decode prog_10_method_22_code 24 = .ok (.aload_n 0, 1) := by decide +kernel
theorem d82_25 : decode prog_10_method_22_code 25 = .ok (.getfield 32, 3) := by decide +kernel
theorem d82_28 : decode prog_10_method_22_code 28 = .ok (.iload_n 2, 1) := by decide +kernel
theorem d82_29 : decode prog_10_method_22_code 29 = .ok (.iaload, 1) := by decide +kernel
theorem d82_30 : decode prog_10_method_22_code 30 = .ok (.iadd, 1) := by decide +kernel
theorem d82_31 : decode prog_10_method_22_code 31 = .ok (.istore 5, 2) := by decide +kernel
theorem d82_33 : decode prog_10_method_22_code 33 = .ok (.aload_n 0, 1) := by decide +kernel
theorem d82_34 : decode prog_10_method_22_code 34 = .ok (.iload_n 1, 1) := by decide +kernel
theorem d82_35 : decode prog_10_method_22_code 35 = .ok (.iload_n 2, 1) := by decide +kernel
theorem d82_36 : decode prog_10_method_22_code 36 = .ok (.aload_n 0, 1) := by decide +kernel
theorem d82_37 : decode prog_10_method_22_code 37 = .ok (.getfield 29, 3) := by decide +kernel
theorem d82_40 : decode prog_10_method_22_code 40 = .ok (.iload_n 2, 1) := by decide +kernel
theorem d82_41 : decode prog_10_method_22_code 41 = .ok (.iaload, 1) := by decide +kernel
theorem d82_42 : decode prog_10_method_22_code 42 = .ok (.aload_n 0, 1) := by decide +kernel
theorem d82_43 : decode prog_10_method_22_code 43 = .ok (.getfield 32, 3) := by decide +kernel
theorem d82_46 : decode prog_10_method_22_code 46 = .ok (.iload_n 2, 1) := by decide +kernel
theorem d82_47 : decode prog_10_method_22_code 47 = .ok (.iaload, 1) := by decide +kernel
theorem d82_48 : decode prog_10_method_22_code 48 = .ok (.invokevirtual 176, 3) := by decide +kernel
theorem d82_51 : decode prog_10_method_22_code 51 = .ok (.istore 6, 2) := by decide +kernel
theorem d82_53 : decode prog_10_method_22_code 53 = .ok (.aload_n 0, 1) := by decide +kernel
theorem d82_54 : decode prog_10_method_22_code 54 = .ok (.getfield 13, 3) := by decide +kernel
theorem d82_57 : decode prog_10_method_22_code 57 = .ok (.ifCond .eq 4, 3) := by decide +kernel
theorem d82_60 : decode prog_10_method_22_code 60 = .ok (.return_, 1) := by decide +kernel
theorem d82_61 : decode prog_10_method_22_code 61 = .ok (.iload 6, 2) := by decide +kernel
theorem d82_63 : decode prog_10_method_22_code 63 = .ok (.ifCond .ne 9, 3) := by decide +kernel
theorem d82_66 : decode prog_10_method_22_code 66 = .ok (.iload_n 3, 1) := by decide +kernel
theorem d82_67 : decode prog_10_method_22_code 67 = .ok (.bipush 12, 2) := by decide +kernel
theorem d82_69 : decode prog_10_method_22_code 69 = .ok (.if_icmp .ne 22, 3) := by decide +kernel
theorem d82_72 : decode prog_10_method_22_code 72 = .ok (.iload 6, 2) := by decide +kernel
theorem d82_74 : decode prog_10_method_22_code 74 = .ok (.sipush 300, 3) := by decide +kernel
theorem d82_77 : decode prog_10_method_22_code 77 = .ok (.if_icmp .ne 24, 3) := by decide +kernel
theorem d82_80 : decode prog_10_method_22_code 80 = .ok (.iload_n 3, 1) := by decide +kernel
theorem d82_81 : decode prog_10_method_22_code 81 = .ok (.iconst 5, 1) := by decide +kernel
theorem d82_82 : decode prog_10_method_22_code 82 = .ok (.if_icmp .le 19, 3) := by decide +kernel
theorem d82_85 : decode prog_10_method_22_code 85 = .ok (.iload_n 3, 1) := by decide +kernel
theorem d82_86 : decode prog_10_method_22_code 86 = .ok (.bipush 11, 2) := by decide +kernel
theorem d82_88 : decode prog_10_method_22_code 88 = .ok (.if_icmp .ge 13, 3) := by decide +kernel
theorem d82_91 : decode prog_10_method_22_code 91 = .ok (.aload_n 0, 1) := by decide +kernel
theorem d82_92 : decode prog_10_method_22_code 92 = .ok (.bipush (-2), 2) := by decide +kernel
theorem d82_94 : decode prog_10_method_22_code 94 = .ok (.iload_n 1, 1) := by decide +kernel
theorem d82_95 : decode prog_10_method_22_code 95 = .ok (.iload_n 2, 1) := by decide +kernel
theorem d82_96 : decode prog_10_method_22_code 96 = .ok (.invokevirtual 162, 3) := by decide +kernel
theorem d82_99 : decode prog_10_method_22_code 99 = .ok (.pop, 1) := by decide +kernel
theorem d82_100 : decode prog_10_method_22_code 100 = .ok (.return_, 1) := by decide +kernel
theorem d82_101 : decode prog_10_method_22_code 101 = .ok (.aload_n 0, 1) := by decide +kernel
theorem d82_102 : decode prog_10_method_22_code 102 = .ok (.getfield 69, 3) := by decide +kernel
theorem d82_105 : decode prog_10_method_22_code 105 = .ok (.iload 4, 2) := by decide +kernel
theorem d82_107 : decode prog_10_method_22_code 107 = .ok (.baload, 1) := by decide +kernel
theorem d82_108 : decode prog_10_method_22_code 108 = .ok (.ifCond .eq 17, 3) := by decide +kernel
theorem d82_111 : decode prog_10_method_22_code 111 = .ok (.aload_n 0, 1) := by decide +kernel
theorem d82_112 : decode prog_10_method_22_code 112 = .ok (.getfield 69, 3) := by decide +kernel
theorem d82_115 : decode prog_10_method_22_code 115 = .ok (.iload 5, 2) := by decide +kernel
theorem d82_117 : decode prog_10_method_22_code 117 = .ok (.baload, 1) := by decide +kernel
theorem d82_118 : decode prog_10_method_22_code 118 = .ok (.ifCond .eq 7, 3) := by decide +kernel
theorem d82_121 : decode prog_10_method_22_code 121 = .ok (.iconst 1, 1) := by decide +kernel
theorem d82_122 : decode prog_10_method_22_code 122 = .ok (.goto 4, 3) := by decide +kernel
theorem d82_125 : decode prog_10_method_22_code 125 = .ok (.iconst 0, 1) := by decide +kernel
theorem d82_126 : decode prog_10_method_22_code 126 = .ok (.istore 7, 2) := by decide +kernel
theorem d82_128 : decode prog_10_method_22_code 128 = .ok (.aload_n 0, 1) := by decide +kernel
theorem d82_129 : decode prog_10_method_22_code 129 = .ok (.lconst 0, 1) := by decide +kernel
theorem d82_130 : decode prog_10_method_22_code 130 = .ok (.putfield 116, 3) := by decide +kernel
theorem d82_133 : decode prog_10_method_22_code 133 = .ok (.iload 7, 2) := by decide +kernel
theorem d82_135 : decode prog_10_method_22_code 135 = .ok (.ifCond .eq 27, 3) := by decide +kernel
theorem d82_138 : decode prog_10_method_22_code 138 = .ok (.aload_n 0, 1) := by decide +kernel
theorem d82_139 : decode prog_10_method_22_code 139 = .ok (.iload_n 3, 1) := by decide +kernel
theorem d82_140 : decode prog_10_method_22_code 140 = .ok (.iload 6, 2) := by decide +kernel
theorem d82_142 : decode prog_10_method_22_code 142 = .ok (.aload_n 0, 1) := by decide +kernel
theorem d82_143 : decode prog_10_method_22_code 143 = .ok (.getfield 78, 3) := by decide +kernel
theorem d82_146 : decode prog_10_method_22_code 146 = .ok (.iload 4, 2) := by decide +kernel
theorem d82_148 : decode prog_10_method_22_code 148 = .ok (.laload, 1) := by decide +kernel
theorem d82_149 : decode prog_10_method_22_code 149 = .ok (.aload_n 0, 1) := by decide +kernel
theorem d82_150 : decode prog_10_method_22_code 150 = .ok (.getfield 78, 3) := by decide +kernel
theorem d82_153 : decode prog_10_method_22_code 153 = .ok (.iload 5, 2) := by decide +kernel
theorem d82_155 : decode prog_10_method_22_code 155 = .ok (.laload, 1) := by decide +kernel
theorem d82_156 : decode prog_10_method_22_code 156 = .ok (.invokevirtual 180, 3) := by decide +kernel
theorem d82_159 : decode prog_10_method_22_code 159 = .ok (.goto 4, 3) := by decide +kernel
theorem d82_162 : decode prog_10_method_22_code 162 = .ok (.lconst 0, 1) := by decide +kernel
theorem d82_163 : decode prog_10_method_22_code 163 = .ok (.lstore 8, 2) := by decide +kernel
theorem d82_165 : decode prog_10_method_22_code 165 = .ok (.aload_n 0, 1) := by decide +kernel
theorem d82_166 : decode prog_10_method_22_code 166 = .ok (.getfield 116, 3) := by decide +kernel
theorem d82_169 : decode prog_10_method_22_code 169 = .ok (.lconst 0, 1) := by decide +kernel
theorem d82_170 : decode prog_10_method_22_code 170 = .ok (.lcmp, 1) := by decide +kernel
theorem d82_171 : decode prog_10_method_22_code 171 = .ok (.ifCond .eq 31, 3) := by decide +kernel
theorem d82_174 : decode prog_10_method_22_code 174 = .ok (.aload_n 0, 1) := by decide +kernel
theorem d82_175 : decode prog_10_method_22_code 175 = .ok (.aload_n 0, 1) := by decide +kernel
theorem d82_176 : decode prog_10_method_22_code 176 = .ok (.getfield 116, 3) := by decide +kernel
theorem d82_179 : decode prog_10_method_22_code 179 = .ok (.ldc2_w 172, 3) := by decide +kernel
theorem d82_182 : decode prog_10_method_22_code 182 = .ok (.lcmp, 1) := by decide +kernel
theorem d82_183 : decode prog_10_method_22_code 183 = .ok (.ifCond .ne 8, 3) := by decide +kernel
theorem d82_186 : decode prog_10_method_22_code 186 = .ok (.bipush (-5), 2) := by decide +kernel
theorem d82_188 : decode prog_10_method_22_code 188 = .ok (.goto 5, 3) := by decide +kernel
theorem d82_191 : decode prog_10_method_22_code 191 = .ok (.bipush (-3), 2) := by decide +kernel
theorem d82_193 : decode prog_10_method_22_code 193 = .ok (.iload_n 1, 1) := by decide +kernel
theorem d82_194 : decode prog_10_method_22_code 194 = .ok (.iload_n 2, 1) := by decide +kernel
theorem d82_195 : decode prog_10_method_22_code 195 = .ok (.invokevirtual 162, 3) := by decide +kernel
theorem d82_198 : decode prog_10_method_22_code 198 = .ok (.pop, 1) := by decide +kernel
theorem d82_199 : decode prog_10_method_22_code 199 = .ok (.goto 25, 3) := by decide +kernel
theorem d82_202 : decode prog_10_method_22_code 202 = .ok (.aload_n 0, 1) := by decide +kernel
theorem d82_203 : decode prog_10_method_22_code 203 = .ok (.iload_n 1, 1) := by decide +kernel
theorem d82_204 : decode prog_10_method_22_code 204 = .ok (.iload_n 2, 1) := by decide +kernel
theorem d82_205 : decode prog_10_method_22_code 205 = .ok (.iload_n 3, 1) := by decide +kernel
theorem d82_206 : decode prog_10_method_22_code 206 = .ok (.bipush 10, 2) := by decide +kernel
theorem d82_208 : decode prog_10_method_22_code 208 = .ok (.if_icmp .le 7, 3) := by decide +kernel
theorem d82_211 : decode prog_10_method_22_code 211 = .ok (.iconst 0, 1) := by decide +kernel
theorem d82_212 : decode prog_10_method_22_code 212 = .ok (.goto 5, 3) := by decide +kernel
theorem d82_215 : decode prog_10_method_22_code 215 = .ok (.iload 6, 2) := by decide +kernel
theorem d82_217 : decode prog_10_method_22_code 217 = .ok (.iload 7, 2) := by decide +kernel
theorem d82_219 : decode prog_10_method_22_code 219 = .ok (.lload 8, 2) := by decide +kernel
theorem d82_221 : decode prog_10_method_22_code 221 = .ok (.invokevirtual 184, 3) := by decide +kernel
theorem d82_224 : decode prog_10_method_22_code 224 = .ok (.return_, 1) := by decide +kernel
theorem d83_0 : decode prog_10_method_23_code 0 = .ok (.iload_n 1, 1) := by decide +kernel
theorem d83_1 : decode prog_10_method_23_code 1 = .ok (.bipush 60, 2) := by decide +kernel
theorem d83_3 : decode prog_10_method_23_code 3 = .ok (.imul, 1) := by decide +kernel
theorem d83_4 : decode prog_10_method_23_code 4 = .ok (.istore_n 3, 1) := by decide +kernel
theorem d83_5 : decode prog_10_method_23_code 5 = .ok (.aload_n 0, 1) := by decide +kernel
theorem d83_6 : decode prog_10_method_23_code 6 = .ok (.getfield 69, 3) := by decide +kernel
theorem d83_9 : decode prog_10_method_23_code 9 = .ok (.iload_n 3, 1) := by decide +kernel
theorem d83_10 : decode prog_10_method_23_code 10 = .ok (.aload_n 0, 1) := by decide +kernel
theorem d83_11 : decode prog_10_method_23_code 11 = .ok (.getfield 29, 3) := by decide +kernel
theorem d83_14 : decode prog_10_method_23_code 14 = .ok (.iload_n 2, 1) := by decide +kernel
theorem d83_15 : decode prog_10_method_23_code 15 = .ok (.iaload, 1) := by decide +kernel
theorem d83_16 : decode prog_10_method_23_code 16 = .ok (.iadd, 1) := by decide +kernel
theorem d83_17 : decode prog_10_method_23_code 17 = .ok (.baload, 1) := by decide +kernel
theorem d83_18 : decode prog_10_method_23_code 18 = .ok (.ifCond .eq 72, 3) := by decide +kernel
theorem d83_21 : decode prog_10_method_23_code 21 = .ok (.aload_n 0, 1) := by decide +kernel
theorem d83_22 : decode prog_10_method_23_code 22 = .ok (.getfield 78, 3) := by decide +kernel
theorem d83_25 : decode prog_10_method_23_code 25 = .ok (.iload_n 3, 1) := by decide +kernel
theorem d83_26 : decode prog_10_method_23_code 26 = .ok (.aload_n 0, 1) := by decide +kernel
theorem d83_27 : decode prog_10_method_23_code 27 = .ok (.getfield 29, 3) := by decide +kernel
theorem d83_30 : decode prog_10_method_23_code 30 = .ok (.iload_n 2, 1) := by decide +kernel
theorem d83_31 : decode prog_10_method_23_code 31 = .ok (.iaload, 1) := by decide +kernel
theorem d83_32 : decode prog_10_method_23_code 32 = .ok (.iadd, 1) := by decide +kernel
theorem d83_33 : decode prog_10_method_23_code 33 = .ok (.laload, 1) := by decide +kernel
theorem d83_34 : decode prog_10_method_23_code 34 = .ok (.lconst 1, 1) := by decide +kernel
theorem d83_35 : decode prog_10_method_23_code 35 = .ok (.lcmp, 1) := by decide +kernel
theorem d83_36 : decode prog_10_method_23_code 36 = .ok (.ifCond .ne 12, 3) := by decide +kernel
theorem d83_39 : decode prog_10_method_23_code 39 = .ok (.aload_n 0, 1) := by decide +kernel
theorem d83_40 : decode prog_10_method_23_code 40 = .ok (.getfield 32, 3) := by decide +kernel
theorem d83_43 : decode prog_10_method_23_code 43 = .ok (.iload_n 2, 1) := by decide +kernel
theorem d83_44 : decode prog_10_method_23_code 44 = .ok (.iaload, 1) := by decide +kernel
theorem d83_45 : decode prog_10_method_23_code 45 = .ok (.goto 9, 3) := by decide +kernel
theorem d83_48 : decode prog_10_method_23_code 48 = .ok (.aload_n 0, 1) := by decide +kernel
theorem d83_49 : decode prog_10_method_23_code 49 = .ok (.getfield 35, 3) := by decide +kernel
theorem d83_52 : decode prog_10_method_23_code 52 = .ok (.iload_n 2, 1) := by decide +kernel
theorem d83_53 : decode prog_10_method_23_code 53 = .ok (.iaload, 1) := by decide +kernel
theorem d83_54 : decode prog_10_method_23_code 54 = .ok (.istore 4, 2) := by decide +kernel
theorem d83_56 : decode prog_10_method_23_code 56 = .ok (.aload_n 0, 1) := by decide +kernel
theorem d83_57 : decode prog_10_method_23_code 57 = .ok (.iload_n 1, 1) := by decide +kernel
theorem d83_58 : decode prog_10_method_23_code 58 = .ok (.iload_n 2, 1) := by decide +kernel
theorem d83_59 : decode prog_10_method_23_code 59 = .ok (.aload_n 0, 1) := by decide +kernel
theorem d83_60 : decode prog_10_method_23_code 60 = .ok (.getfield 72, 3) := by decide +kernel
theorem d83_63 : decode prog_10_method_23_code 63 = .ok (.iload_n 3, 1) := by decide +kernel
theorem d83_64 : decode prog_10_method_23_code 64 = .ok (.iload 4, 2) := by decide +kernel
theorem d83_66 : decode prog_10_method_23_code 66 = .ok (.iadd, 1) := by decide +kernel
theorem d83_67 : decode prog_10_method_23_code 67 = .ok (.iaload, 1) := by decide +kernel
theorem d83_68 : decode prog_10_method_23_code 68 = .ok (.aload_n 0, 1) := by decide +kernel
theorem d83_69 : decode prog_10_method_23_code 69 = .ok (.getfield 69, 3) := by decide +kernel
theorem d83_72 : decode prog_10_method_23_code 72 = .ok (.iload_n 3, 1) := by decide +kernel
theorem d83_73 : decode prog_10_method_23_code 73 = .ok (.iload 4, 2) := by decide +kernel
theorem d83_75 : decode prog_10_method_23_code 75 = .ok (.iadd, 1) := by decide +kernel
theorem d83_76 : decode prog_10_method_23_code 76 = .ok (.baload, 1) := by decide +kernel
theorem d83_77 : decode prog_10_method_23_code 77 = .ok (.aload_n 0, 1) := by decide +kernel
theorem d83_78 : decode prog_10_method_23_code 78 = .ok (.getfield 78, 3) := by decide +kernel
theorem d83_81 : decode prog_10_method_23_code 81 = .ok (.iload_n 3, 1) := by decide +kernel
theorem d83_82 : decode prog_10_method_23_code 82 = .ok (.iload 4, 2) := by decide +kernel
theorem d83_84 : decode prog_10_method_23_code 84 = .ok (.iadd, 1) := by decide +kernel
theorem d83_85 : decode prog_10_method_23_code 85 = .ok (.laload, 1) := by decide +kernel
theorem d83_86 : decode prog_10_method_23_code 86 = .ok (.invokevirtual 184, 3) := by decide +kernel
theorem d83_89 : decode prog_10_method_23_code 89 = .ok (.return_, 1) := by decide +kernel
theorem d83_90 : decode prog_10_method_23_code 90 = .ok (.aload_n 0, 1) := by decide +kernel
theorem d83_91 : decode prog_10_method_23_code 91 = .ok (.iload_n 1, 1) := by decide +kernel
theorem d83_92 : decode prog_10_method_23_code 92 = .ok (.iload_n 2, 1) := by decide +kernel
theorem d83_93 : decode prog_10_method_23_code 93 = .ok (.aload_n 0, 1) := by decide +kernel
theorem d83_94 : decode prog_10_method_23_code 94 = .ok (.getfield 32, 3) := by decide +kernel
theorem d83_97 : decode prog_10_method_23_code 97 = .ok (.iload_n 2, 1) := by decide +kernel
theorem d83_98 : decode prog_10_method_23_code 98 = .ok (.iaload, 1) := by decide +kernel
theorem d83_99 : decode prog_10_method_23_code 99 = .ok (.aload_n 0, 1) := by decide +kernel
theorem d83_100 : decode prog_10_method_23_code 100 = .ok (.getfield 35, 3) := by decide +kernel
theorem d83_103 : decode prog_10_method_23_code 103 = .ok (.iload_n 2, 1) := by decide +kernel
theorem d83_104 : decode prog_10_method_23_code 104 = .ok (.iaload, 1) := by decide +kernel
theorem d83_105 : decode prog_10_method_23_code 105 = .ok (.invokevirtual 176, 3) := by decide +kernel
theorem d83_108 : decode prog_10_method_23_code 108 = .ok (.istore 4, 2) := by decide +kernel
theorem d83_110 : decode prog_10_method_23_code 110 = .ok (.aload_n 0, 1) := by decide +kernel
theorem d83_111 : decode prog_10_method_23_code 111 = .ok (.getfield 13, 3) := by decide +kernel
theorem d83_114 : decode prog_10_method_23_code 114 = .ok (.ifCond .eq 4, 3) := by decide +kernel
theorem d83_117 : decode prog_10_method_23_code 117 = .ok (.return_, 1) := by decide +kernel
theorem d83_118 : decode prog_10_method_23_code 118 = .ok (.iload 4, 2) := by decide +kernel
theorem d83_120 : decode prog_10_method_23_code 120 = .ok (.sipush 300, 3) := by decide +kernel
theorem d83_123 : decode prog_10_method_23_code 123 = .ok (.if_icmp .ne 15, 3) := by decide +kernel
theorem d83_126 : decode prog_10_method_23_code 126 = .ok (.aload_n 0, 1) := by decide +kernel
theorem d83_127 : decode prog_10_method_23_code 127 = .ok (.bipush (-2), 2) := by decide +kernel
theorem d83_129 : decode prog_10_method_23_code 129 = .ok (.iload_n 1, 1) := by decide +kernel
theorem d83_130 : decode prog_10_method_23_code 130 = .ok (.iload_n 2, 1) := by decide +kernel
theorem d83_131 : decode prog_10_method_23_code 131 = .ok (.invokevirtual 162, 3) := by decide +kernel
theorem d83_134 : decode prog_10_method_23_code 134 = .ok (.pop, 1) := by decide +kernel
theorem d83_135 : decode prog_10_method_23_code 135 = .ok (.goto 13, 3) := by decide +kernel
theorem d83_138 : decode prog_10_method_23_code 138 = .ok (.aload_n 0, 1) := by decide +kernel
theorem d83_139 : decode prog_10_method_23_code 139 = .ok (.iload_n 1, 1) := by decide +kernel
theorem d83_140 : decode prog_10_method_23_code 140 = .ok (.iload_n 2, 1) := by decide +kernel
theorem d83_141 : decode prog_10_method_23_code 141 = .ok (.iload 4, 2) := by decide +kernel
theorem d83_143 : decode prog_10_method_23_code 143 = .ok (.iconst 0, 1) := by decide +kernel
theorem d83_144 : decode prog_10_method_23_code 144 = .ok (.lconst 0, 1) := by decide +kernel
theorem d83_145 : decode prog_10_method_23_code 145 = .ok (.invokevirtual 184, 3) := by decide +kernel
theorem d83_148 : decode prog_10_method_23_code 148 = .ok (.return_, 1) := by decide +kernel
theorem d84_0 : decode prog_10_method_24_code 0 = .ok (.iload_n 1, 1) := by decide +kernel
theorem d84_1 : decode prog_10_method_24_code 1 = .ok (.bipush 60, 2) := by decide +kernel
theorem d84_3 : decode prog_10_method_24_code 3 = .ok (.imul, 1) := by decide +kernel
theorem d84_4 : decode prog_10_method_24_code 4 = .ok (.aload_n 0, 1) := by decide +kernel
theorem d84_5 : decode prog_10_method_24_code 5 = .ok (.getfield 29, 3) := by decide +kernel
theorem d84_8 : decode prog_10_method_24_code 8 = .ok (.iload_n 2, 1) := by decide +kernel
theorem d84_9 : decode prog_10_method_24_code 9 = .ok (.iaload, 1) := by decide +kernel
theorem d84_10 : decode prog_10_method_24_code 10 = .ok (.iadd, 1) := by decide +kernel
theorem d84_11 : decode prog_10_method_24_code 11 = .ok (.istore_n 3, 1) := by decide +kernel
theorem d84_12 : decode prog_10_method_24_code 12 = .ok (.aload_n 0, 1) := by decide +kernel
theorem d84_13 : decode prog_10_method_24_code 13 = .ok (.iload_n 1, 1) := by decide +kernel
theorem d84_14 : decode prog_10_method_24_code 14 = .ok (.aload_n 0, 1) := by decide +kernel
theorem d84_15 : decode prog_10_method_24_code 15 = .ok (.getfield 32, 3) := by decide +kernel
theorem d84_18 : decode prog_10_method_24_code 18 = .ok (.iload_n 2, 1) := by decide +kernel
theorem d84_19 : decode prog_10_method_24_code 19 = .ok (.iaload, 1) := by decide +kernel
theorem d84_20 : decode prog_10_method_24_code 20 = .ok (.invokevirtual 188, 3) := by decide +kernel
theorem d84_23 : decode prog_10_method_24_code 23 = .ok (.istore 4, 2) := by decide +kernel
theorem d84_25 : decode prog_10_method_24_code 25 = .ok (.aload_n 0, 1) := by decide +kernel
theorem d84_26 : decode prog_10_method_24_code 26 = .ok (.getfield 72, 3) := by decide +kernel
theorem d84_29 : decode prog_10_method_24_code 29 = .ok (.iload_n 3, 1) := by decide +kernel
theorem d84_30 : decode prog_10_method_24_code 30 = .ok (.iaload, 1) := by decide +kernel
theorem d84_31 : decode prog_10_method_24_code 31 = .ok (.ifCond .ne 15, 3) := by decide +kernel
theorem d84_34 : decode prog_10_method_24_code 34 = .ok (.aload_n 0, 1) := by decide +kernel
theorem d84_35 : decode prog_10_method_24_code 35 = .ok (.bipush (-2), 2) := by decide +kernel
theorem d84_37 : decode prog_10_method_24_code 37 = .ok (.iload_n 1, 1) := by decide +kernel
theorem d84_38 : decode prog_10_method_24_code 38 = .ok (.iload_n 2, 1) := by decide +kernel
theorem d84_39 : decode prog_10_method_24_code 39 = .ok (.invokevirtual 162, 3) := by decide +kernel
theorem d84_42 : decode prog_10_method_24_code 42 = .ok (.pop, 1) := by decide +kernel
theorem d84_43 : decode prog_10_method_24_code 43 = .ok (.goto 79, 3) := by decide +kernel
theorem d84_46 : decode prog_10_method_24_code 46 = .ok (.iload 4, 2) := by decide +kernel
theorem d84_48 : decode prog_10_method_24_code 48 = .ok (.sipush 500, 3) := by decide +kernel
theorem d84_51 : decode prog_10_method_24_code 51 = .ok (.if_icmp .ne 15, 3) := by decide +kernel
theorem d84_54 : decode prog_10_method_24_code 54 = .ok (.aload_n 0, 1) := by decide +kernel
theorem d84_55 : decode prog_10_method_24_code 55 = .ok (.bipush (-4), 2) := by decide +kernel
theorem d84_57 : decode prog_10_method_24_code 57 = .ok (.iload_n 1, 1) := by decide +kernel
theorem d84_58 : decode prog_10_method_24_code 58 = .ok (.iload_n 2, 1) := by decide +kernel
theorem d84_59 : decode prog_10_method_24_code 59 = .ok (.invokevirtual 162, 3) := by decide +kernel
theorem d84_62 : decode prog_10_method_24_code 62 = .ok (.pop, 1) := by decide +kernel
theorem d84_63 : decode prog_10_method_24_code 63 = .ok (.goto 59, 3) := by decide +kernel
theorem d84_66 : decode prog_10_method_24_code 66 = .ok (.aload_n 0, 1) := by decide +kernel
theorem d84_67 : decode prog_10_method_24_code 67 = .ok (.getfield 69, 3) := by decide +kernel
theorem d84_70 : decode prog_10_method_24_code 70 = .ok (.iload_n 3, 1) := by decide +kernel
theorem d84_71 : decode prog_10_method_24_code 71 = .ok (.baload, 1) := by decide +kernel
theorem d84_72 : decode prog_10_method_24_code 72 = .ok (.ifCond .eq 30, 3) := by decide +kernel
theorem d84_75 : decode prog_10_method_24_code 75 = .ok (.aload_n 0, 1) := by decide +kernel
theorem d84_76 : decode prog_10_method_24_code 76 = .ok (.iload 4, 2) := by decide +kernel
theorem d84_78 : decode prog_10_method_24_code 78 = .ok (.aload_n 0, 1) := by decide +kernel
theorem d84_79 : decode prog_10_method_24_code 79 = .ok (.getfield 78, 3) := by decide +kernel
theorem d84_82 : decode prog_10_method_24_code 82 = .ok (.iload_n 3, 1) := by decide +kernel
theorem d84_83 : decode prog_10_method_24_code 83 = .ok (.laload, 1) := by decide +kernel
theorem d84_84 : decode prog_10_method_24_code 84 = .ok (.invokevirtual 168, 3) := by decide +kernel
theorem d84_87 : decode prog_10_method_24_code 87 = .ok (.ifCond .ne 15, 3) := by decide +kernel
theorem d84_90 : decode prog_10_method_24_code 90 = .ok (.aload_n 0, 1) := by decide +kernel
theorem d84_91 : decode prog_10_method_24_code 91 = .ok (.bipush (-3), 2) := by decide +kernel
theorem d84_93 : decode prog_10_method_24_code 93 = .ok (.iload_n 1, 1) := by decide +kernel
theorem d84_94 : decode prog_10_method_24_code 94 = .ok (.iload_n 2, 1) := by decide +kernel
theorem d84_95 : decode prog_10_method_24_code 95 = .ok (.invokevirtual 162, 3) := by decide +kernel
theorem d84_98 : decode prog_10_method_24_code 98 = .ok (.pop, 1) := by decide +kernel
theorem d84_99 : decode prog_10_method_24_code 99 = .ok (.goto 23, 3) := by decide +kernel
theorem d84_102 : decode prog_10_method_24_code 102 = .ok (.aload_n 0, 1) := by decide +kernel
theorem d84_103 : decode prog_10_method_24_code 103 = .ok (.iload_n 1, 1) := by decide +kernel
theorem d84_104 : decode prog_10_method_24_code 104 = .ok (.iload_n 2, 1) := by decide +kernel
theorem d84_105 : decode prog_10_method_24_code 105 = .ok (.iload 4, 2) := by decide +kernel
theorem d84_107 : decode prog_10_method_24_code 107 = .ok (.aload_n 0, 1) := by decide +kernel
theorem d84_108 : decode prog_10_method_24_code 108 = .ok (.getfield 69, 3) := by decide +kernel
theorem d84_111 : decode prog_10_method_24_code 111 = .ok (.iload_n 3, 1) := by decide +kernel
theorem d84_112 : decode prog_10_method_24_code 112 = .ok (.baload, 1) := by decide +kernel
theorem d84_113 : decode prog_10_method_24_code 113 = .ok (.aload_n 0, 1) := by decide +kernel
theorem d84_114 : decode prog_10_method_24_code 114 = .ok (.getfield 78, 3) := by decide +kernel
theorem d84_117 : decode prog_10_method_24_code 117 = .ok (.iload_n 3, 1) := by decide +kernel
theorem d84_118 : decode prog_10_method_24_code 118 = .ok (.laload, 1) := by decide +kernel
theorem d84_119 : decode prog_10_method_24_code 119 = .ok (.invokevirtual 184, 3) := by decide +kernel
theorem d84_122 : decode prog_10_method_24_code 122 = .ok (.return_, 1) := by decide +kernel
theorem d85_0 : decode prog_10_method_25_code 0 = .ok (.aload_n 0, 1) := by decide +kernel
theorem d85_1 : decode prog_10_method_25_code 1 = .ok (.getfield 45, 3) := by decide +kernel
theorem d85_4 : decode prog_10_method_25_code 4 = .ok (.iload_n 3, 1) := by decide +kernel
theorem d85_5 : decode prog_10_method_25_code 5 = .ok (.iaload, 1) := by decide +kernel
theorem d85_6 : decode prog_10_method_25_code 6 = .ok (.sipush 300, 3) := by decide +kernel
theorem d85_9 : decode prog_10_method_25_code 9 = .ok (.if_icmp .ne 9, 3) := by decide +kernel
theorem d85_12 : decode prog_10_method_25_code 12 = .ok (.lload 4, 2) := by decide +kernel
theorem d85_14 : decode prog_10_method_25_code 14 = .ok (.l2i, 1) := by decide +kernel
theorem d85_15 : decode prog_10_method_25_code 15 = .ok (.goto 4, 3) := by decide +kernel
theorem d85_18 : decode prog_10_method_25_code 18 = .ok (.iconst 0, 1) := by decide +kernel
theorem d85_19 : decode prog_10_method_25_code 19 = .ok (.istore 8, 2) := by decide +kernel
theorem d85_21 : decode prog_10_method_25_code 21 = .ok (.aload_n 0, 1) := by decide +kernel
theorem d85_22 : decode prog_10_method_25_code 22 = .ok (.getfield 48, 3) := by decide +kernel
theorem d85_25 : decode prog_10_method_25_code 25 = .ok (.iload_n 3, 1) := by decide +kernel
theorem d85_26 : decode prog_10_method_25_code 26 = .ok (.iaload, 1) := by decide +kernel
theorem d85_27 : decode prog_10_method_25_code 27 = .ok (.sipush 300, 3) := by decide +kernel
theorem d85_30 : decode prog_10_method_25_code 30 = .ok (.if_icmp .ne 9, 3) := by decide +kernel
theorem d85_33 : decode prog_10_method_25_code 33 = .ok (.lload 6, 2) := by decide +kernel
theorem d85_35 : decode prog_10_method_25_code 35 = .ok (.l2i, 1) := by decide +kernel
theorem d85_36 : decode prog_10_method_25_code 36 = .ok (.goto 4, 3) := by decide +kernel
theorem d85_39 : decode prog_10_method_25_code 39 = .ok (.iconst 0, 1) := by decide +kernel
theorem d85_40 : decode prog_10_method_25_code 40 = .ok (.istore 9, 2) := by decide +kernel
theorem d85_42 : decode prog_10_method_25_code 42 = .ok (.iconst 0, 1) := by decide +kernel
theorem d85_43 : decode prog_10_method_25_code 43 = .ok (.istore 10, 2) := by decide +kernel
theorem d85_45 : decode prog_10_method_25_code 45 = .ok (.iload 10, 2) := by decide +kernel
theorem d85_47 : decode prog_10_method_25_code 47 = .ok (.aload_n 0, 1) := by decide +kernel
theorem d85_48 : decode prog_10_method_25_code 48 = .ok (.getfield 19, 3) := by decide +kernel
theorem d85_51 : decode prog_10_method_25_code 51 = .ok (.if_icmp .ge 61, 3) := by decide +kernel
theorem d85_54 : decode prog_10_method_25_code 54 = .ok (.aload_n 0, 1) := by decide +kernel
theorem d85_55 : decode prog_10_method_25_code 55 = .ok (.getfield 57, 3) := by decide +kernel
theorem d85_58 : decode prog_10_method_25_code 58 = .ok (.iload 10, 2) := by decide +kernel
theorem d85_60 : decode prog_10_method_25_code 60 = .ok (.iaload, 1) := by decide +kernel
theorem d85_61 : decode prog_10_method_25_code 61 = .ok (.iload_n 3, 1) := by decide +kernel
theorem d85_62 : decode prog_10_method_25_code 62 = .ok (.if_icmp .ne 44, 3) := by decide +kernel
theorem d85_65 : decode prog_10_method_25_code 65 = .ok (.aload_n 0, 1) := by decide +kernel
theorem d85_66 : decode prog_10_method_25_code 66 = .ok (.getfield 60, 3) := by decide +kernel
theorem d85_69 : decode prog_10_method_25_code 69 = .ok (.iload 10, 2) := by decide +kernel
theorem d85_71 : decode prog_10_method_25_code 71 = .ok (.iaload, 1) := by decide +kernel
theorem d85_72 : decode prog_10_method_25_code 72 = .ok (.iload 8, 2) := by decide +kernel
theorem d85_74 : decode prog_10_method_25_code 74 = .ok (.if_icmp .ne 32, 3) := by decide +kernel
theorem d85_77 : decode prog_10_method_25_code 77 = .ok (.aload_n 0, 1) := by decide +kernel
theorem d85_78 : decode prog_10_method_25_code 78 = .ok (.getfield 63, 3) := by decide +kernel
theorem d85_81 : decode prog_10_method_25_code 81 = .ok (.iload 10, 2) := by decide +kernel
theorem d85_83 : decode prog_10_method_25_code 83 = .ok (.iaload, 1) := by decide +kernel
theorem d85_84 : decode prog_10_method_25_code 84 = .ok (.iload 9, 2) := by decide +kernel
theorem d85_86 : decode prog_10_method_25_code 86 = .ok (.if_icmp .ne 20, 3) := by decide +kernel
theorem d85_89 : decode prog_10_method_25_code 89 = .ok (.aload_n 0, 1) := by decide +kernel
theorem d85_90 : decode prog_10_method_25_code 90 = .ok (.iload 10, 2) := by decide +kernel
theorem d85_92 : decode prog_10_method_25_code 92 = .ok (.iload_n 3, 1) := by decide +kernel
theorem d85_93 : decode prog_10_method_25_code 93 = .ok (.lload 4, 2) := by decide +kernel
theorem d85_95 : decode prog_10_method_25_code 95 = .ok (.lload 6, 2) := by decide +kernel
theorem d85_97 : decode prog_10_method_25_code 97 = .ok (.invokevirtual 192, 3) := by decide +kernel
theorem d85_100 : decode prog_10_method_25_code 100 = .ok (.ifCond .eq 6, 3) := by decide +kernel
theorem d85_103 : decode prog_10_method_25_code 103 = .ok (.iload 10, 2) := by decide +kernel
theorem d85_105 : decode prog_10_method_25_code 105 = .ok (.ireturn, 1) := by decide +kernel
theorem d85_106 : decode prog_10_method_25_code 106 = .ok (.iinc 10 1, 3) := by decide +kernel
theorem d85_109 : decode prog_10_method_25_code 109 = .ok (.goto (-64), 3) := by decide +kernel
theorem d85_112 : decode prog_10_method_25_code 112 = .ok (.aload_n 0, 1) := by decide +kernel
theorem d85_113 : decode prog_10_method_25_code 113 = .ok (.getfield 19, 3) := by decide +kernel
theorem d85_116 : decode prog_10_method_25_code 116 = .ok (.bipush 20, 2) := by decide +kernel
theorem d85_118 : decode prog_10_method_25_code 118 = .ok (.if_icmp .ne 12, 3) := by decide +kernel
theorem d85_121 : decode prog_10_method_25_code 121 = .ok (.aload_n 0, 1) := by decide +kernel
theorem d85_122 : decode prog_10_method_25_code 122 = .ok (.bipush (-7), 2) := by decide +kernel
theorem d85_124 : decode prog_10_method_25_code 124 = .ok (.iload_n 1, 1) := by decide +kernel
theorem d85_125 : decode prog_10_method_25_code 125 = .ok (.iload_n 2, 1) := by decide +kernel
theorem d85_126 : decode prog_10_method_25_code 126 = .ok (.invokevirtual 162, 3) := by decide +kernel
theorem d85_129 : decode prog_10_method_25_code 129 = .ok (.ireturn, 1) := by decide +kernel
theorem d85_130 : decode prog_10_method_25_code 130 = .ok (.aload_n 0, 1) := by decide +kernel
theorem d85_131 : decode prog_10_method_25_code 131 = .ok (.getfield 57, 3) := by decide +kernel
theorem d85_134 : decode prog_10_method_25_code 134 = .ok (.aload_n 0, 1) := by decide +kernel
theorem d85_135 : decode prog_10_method_25_code 135 = .ok (.getfield 19, 3) := by decide +kernel
theorem d85_138 : decode prog_10_method_25_code 138 = .ok (.iload_n 3, 1) := by decide +kernel
theorem d85_139 : decode prog_10_method_25_code 139 = .ok (.iastore, 1) := by decide +kernel
theorem d85_140 : decode prog_10_method_25_code 140 = .ok (.aload_n 0, 1) := by decide +kernel
theorem d85_141 : decode prog_10_method_25_code 141 = .ok (.getfield 60, 3) := by decide +kernel
theorem d85_144 : decode prog_10_method_25_code 144 = .ok (.aload_n 0, 1) := by decide +kernel
theorem d85_145 : decode prog_10_method_25_code 145 = .ok (.getfield 19, 3) := by decide +kernel
theorem d85_148 : decode prog_10_method_25_code 148 = .ok (.iload 8, 2) := by decide +kernel
theorem d85_150 : decode prog_10_method_25_code 150 = .ok (.iastore, 1) := by decide +kernel
theorem d85_151 : decode prog_10_method_25_code 151 = .ok (.aload_n 0, 1) := by decide +kernel
theorem d85_152 : decode prog_10_method_25_code 152 = .ok (.getfield 63, 3) := by decide +kernel
theorem d85_155 : decode prog_10_method_25_code 155 = .ok (.aload_n 0, 1) := by decide +kernel
theorem d85_156 : decode prog_10_method_25_code 156 = .ok (.getfield 19, 3) := by decide +kernel
theorem d85_159 : decode prog_10_method_25_code 159 = .ok (.iload 9, 2) := by decide +kernel
theorem d85_161 : decode prog_10_method_25_code 161 = .ok (.iastore, 1) := by decide +kernel
theorem d85_162 : decode prog_10_method_25_code 162 = .ok (.aload_n 0, 1) := by decide +kernel
theorem d85_163 : decode prog_10_method_25_code 163 = .ok (.getfield 119, 3) := by decide +kernel
theorem d85_166 : decode prog_10_method_25_code 166 = .ok (.aload_n 0, 1) := by decide +kernel
theorem d85_167 : decode prog_10_method_25_code 167 = .ok (.getfield 19, 3) := by decide +kernel
theorem d85_170 : decode prog_10_method_25_code 170 = .ok (.aload_n 0, 1) := by decide +kernel
theorem d85_171 : decode prog_10_method_25_code 171 = .ok (.getfield 45, 3) := by decide +kernel
theorem d85_174 : decode prog_10_method_25_code 174 = .ok (.iload_n 3, 1) := by decide +kernel
theorem d85_175 : decode prog_10_method_25_code 175 = .ok (.iaload, 1) := by decide +kernel
theorem d85_176 : decode prog_10_method_25_code 176 = .ok (.sipush 300, 3) := by decide +kernel
theorem d85_179 : decode prog_10_method_25_code 179 = .ok (.if_icmp .ne 8, 3) := by decide +kernel
theorem d85_182 : decode prog_10_method_25_code 182 = .ok (.lload 4, 2) := by decide +kernel
theorem d85_184 : decode prog_10_method_25_code 184 = .ok (.goto 4, 3) := by decide +kernel
theorem d85_187 : decode prog_10_method_25_code 187 = .ok (.lconst 0, 1) := by decide +kernel
theorem d85_188 : decode prog_10_method_25_code 188 = .ok (.lastore, 1) := by decide +kernel
theorem d85_189 : decode prog_10_method_25_code 189 = .ok (.aload_n 0, 1) := by decide +kernel
theorem d85_190 : decode prog_10_method_25_code 190 = .ok (.getfield 122, 3) := by decide +kernel
theorem d85_193 : decode prog_10_method_25_code 193 = .ok (.aload_n 0, 1) := by decide +kernel
theorem d85_194 : decode prog_10_method_25_code 194 = .ok (.getfield 19, 3) := by decide +kernel
theorem d85_197 : decode prog_10_method_25_code 197 = .ok (.aload_n 0, 1) := by decide +kernel
theorem d85_198 : decode prog_10_method_25_code 198 = .ok (.getfield 48, 3) := by decide +kernel
theorem d85_201 : decode prog_10_method_25_code 201 = .ok (.iload_n 3, 1) := by decide +kernel
theorem d85_202 : decode prog_10_method_25_code 202 = .ok (.iaload, 1) := by decide +kernel
theorem d85_203 : decode prog_10_method_25_code 203 = .ok (.sipush 300, 3) := by decide +kernel
theorem d85_206 : decode prog_10_method_25_code 206 = .ok (.if_icmp .ne 8, 3) := by decide +kernel
theorem d85_209 : decode prog_10_method_25_code 209 = .ok (.lload 6, 2) := by decide +kernel
theorem d85_211 : decode prog_10_method_25_code 211 = .ok (.goto 4, 3) := by decide +kernel
theorem d85_214 : decode prog_10_method_25_code 214 = .ok (.lconst 0, 1) := by decide +kernel
theorem d85_215 : decode prog_10_method_25_code 215 = .ok (.lastore, 1) := by decide +kernel
theorem d85_216 : decode prog_10_method_25_code 216 = .ok (.aload_n 0, 1) := by decide +kernel
theorem d85_217 : decode prog_10_method_25_code 217 = .ok (.aload_n 0, 1) := by decide +kernel
theorem d85_218 : decode prog_10_method_25_code 218 = .ok (.getfield 19, 3) := by decide +kernel
theorem d85_221 : decode prog_10_method_25_code 221 = .ok (.aload_n 0, 1) := by decide +kernel
theorem d85_222 : decode prog_10_method_25_code 222 = .ok (.getfield 45, 3) := by decide +kernel
theorem d85_225 : decode prog_10_method_25_code 225 = .ok (.iload_n 3, 1) := by decide +kernel
theorem d85_226 : decode prog_10_method_25_code 226 = .ok (.iaload, 1) := by decide +kernel
theorem d85_227 : decode prog_10_method_25_code 227 = .ok (.invokevirtual 188, 3) := by decide +kernel
theorem d85_230 : decode prog_10_method_25_code 230 = .ok (.sipush 500, 3) := by decide +kernel
theorem d85_233 : decode prog_10_method_25_code 233 = .ok (.if_icmp .eq 43, 3) := by decide +kernel
theorem d85_236 : decode prog_10_method_25_code 236 = .ok (.aload_n 0, 1) := by decide +kernel
theorem d85_237 : decode prog_10_method_25_code 237 = .ok (.aload_n 0, 1) := by decide +kernel
theorem d85_238 : decode prog_10_method_25_code 238 = .ok (.getfield 19, 3) := by decide +kernel
theorem d85_241 : decode prog_10_method_25_code 241 = .ok (.aload_n 0, 1) := by decide +kernel
theorem d85_242 : decode prog_10_method_25_code 242 = .ok (.getfield 48, 3) := by decide +kernel
theorem d85_245 : decode prog_10_method_25_code 245 = .ok (.iload_n 3, 1) := by decide +kernel
theorem d85_246 : decode prog_10_method_25_code 246 = .ok (.iaload, 1) := by decide +kernel
theorem d85_247 : decode prog_10_method_25_code 247 = .ok (.invokevirtual 188, 3) := by decide +kernel
theorem d85_250 : decode prog_10_method_25_code 250 = .ok (.sipush 500, 3) := by decide +kernel
theorem d85_253 : decode prog_10_method_25_code 253 = .ok (.if_icmp .eq 23, 3) := by decide +kernel
theorem d85_256 : decode prog_10_method_25_code 256 = .ok (.aload_n 0, 1) := by decide +kernel
theorem d85_257 : decode prog_10_method_25_code 257 = .ok (.aload_n 0, 1) := by decide +kernel
theorem d85_258 : decode prog_10_method_25_code 258 = .ok (.getfield 19, 3) := by decide +kernel
theorem d85_261 : decode prog_10_method_25_code 261 = .ok (.aload_n 0, 1) := by decide +kernel
theorem d85_262 : decode prog_10_method_25_code 262 = .ok (.getfield 51, 3) := by decide +kernel
theorem d85_265 : decode prog_10_method_25_code 265 = .ok (.iload_n 3, 1) := by decide +kernel
theorem d85_266 : decode prog_10_method_25_code 266 = .ok (.iaload, 1) := by decide +kernel
theorem d85_267 : decode prog_10_method_25_code 267 = .ok (.invokevirtual 188, 3) := by decide +kernel
theorem d85_270 : decode prog_10_method_25_code 270 = .ok (.sipush 500, 3) := by decide +kernel
theorem d85_273 : decode prog_10_method_25_code 273 = .ok (.if_icmp .ne 7, 3) := by decide +kernel
theorem d85_276 : decode prog_10_method_25_code 276 = .ok (.iconst 1, 1) := by decide +kernel
theorem d85_277 : decode prog_10_method_25_code 277 = .ok (.goto 4, 3) := by decide +kernel
theorem d85_280 : decode prog_10_method_25_code 280 = .ok (.iconst 0, 1) := by decide +kernel
theorem d85_281 : decode prog_10_method_25_code 281 = .ok (.istore 10, 2) := by decide +kernel
theorem d85_283 : decode prog_10_method_25_code 283 = .ok (.iload 10, 2) := by decide +kernel
theorem d85_285 : decode prog_10_method_25_code 285 = .ok (.ifCond .eq 25, 3) := by decide +kernel
theorem d85_288 : decode prog_10_method_25_code 288 = .ok (.aload_n 0, 1) := by decide +kernel
theorem d85_289 : decode prog_10_method_25_code 289 = .ok (.bipush (-4), 2) := by decide +kernel
theorem d85_291 : decode prog_10_method_25_code 291 = .ok (.iload_n 2, 1) := by decide +kernel
theorem d85_292 : decode prog_10_method_25_code 292 = .ok (.bipush 63, 2) := by decide +kernel
theorem d85_294 : decode prog_10_method_25_code 294 = .ok (.if_icmp .ne 10, 3) := by decide +kernel
theorem d85_297 : decode prog_10_method_25_code 297 = .ok (.aload_n 0, 1) := by decide +kernel
theorem d85_298 : decode prog_10_method_25_code 298 = .ok (.getfield 19, 3) := by decide +kernel
theorem d85_301 : decode prog_10_method_25_code 301 = .ok (.goto 4, 3) := by decide +kernel
theorem d85_304 : decode prog_10_method_25_code 304 = .ok (.iload_n 1, 1) := by decide +kernel
theorem d85_305 : decode prog_10_method_25_code 305 = .ok (.iload_n 2, 1) := by decide +kernel
theorem d85_306 : decode prog_10_method_25_code 306 = .ok (.invokevirtual 162, 3) := by decide +kernel
theorem d85_309 : decode prog_10_method_25_code 309 = .ok (.ireturn, 1) := by decide +kernel
theorem d85_310 : decode prog_10_method_25_code 310 = .ok (.iconst 0, 1) := by decide +kernel
theorem d85_311 : decode prog_10_method_25_code 311 = .ok (.istore 11, 2) := by decide +kernel
theorem d85_313 : decode prog_10_method_25_code 313 = .ok (.iload 11, 2) := by decide +kernel
theorem d85_315 : decode prog_10_method_25_code 315 = .ok (.bipush 60, 2) := by decide +kernel
theorem d85_317 : decode prog_10_method_25_code 317 = .ok (.if_icmp .ge 25, 3) := by decide +kernel
theorem d85_320 : decode prog_10_method_25_code 320 = .ok (.aload_n 0, 1) := by decide +kernel
theorem d85_321 : decode prog_10_method_25_code 321 = .ok (.getfield 66, 3) := by decide +kernel
theorem d85_324 : decode prog_10_method_25_code 324 = .ok (.aload_n 0, 1) := by decide +kernel
theorem d85_325 : decode prog_10_method_25_code 325 = .ok (.getfield 19, 3) := by decide +kernel
theorem d85_328 : decode prog_10_method_25_code 328 = .ok (.bipush 60, 2) := by decide +kernel
theorem d85_330 : decode prog_10_method_25_code 330 = .ok (.imul, 1) := by decide +kernel
theorem d85_331 : decode prog_10_method_25_code 331 = .ok (.iload 11, 2) := by decide +kernel
theorem d85_333 : decode prog_10_method_25_code 333 = .ok (.iadd, 1) := by decide +kernel
theorem d85_334 : decode prog_10_method_25_code 334 = .ok (.iconst 0, 1) := by decide +kernel
theorem d85_335 : decode prog_10_method_25_code 335 = .ok (.bastore, 1) := by decide +kernel
theorem d85_336 : decode prog_10_method_25_code 336 = .ok (.iinc 11 1, 3) := by decide +kernel
theorem d85_339 : decode prog_10_method_25_code 339 = .ok (.goto (-26), 3) := by decide +kernel
theorem d85_342 : decode prog_10_method_25_code 342 = .ok (.aload_n 0, 1) := by decide +kernel
theorem d85_343 : decode prog_10_method_25_code 343 = .ok (.dup, 1) := by decide +kernel
theorem d85_344 : decode prog_10_method_25_code 344 = .ok (.getfield 19, 3) := by decide +kernel
theorem d85_347 : decode prog_10_method_25_code 347 = .ok (.iconst 1, 1) := by decide +kernel
theorem d85_348 : decode prog_10_method_25_code 348 = .ok (.iadd, 1) := by decide +kernel
theorem d85_349 : decode prog_10_method_25_code 349 = .ok (.putfield 19, 3) := by decide +kernel
theorem d85_352 : decode prog_10_method_25_code 352 = .ok (.aload_n 0, 1) := by decide +kernel
theorem d85_353 : decode prog_10_method_25_code 353 = .ok (.getfield 19, 3) := by decide +kernel
theorem d85_356 : decode prog_10_method_25_code 356 = .ok (.iconst 1, 1) := by decide +kernel
theorem d85_357 : decode prog_10_method_25_code 357 = .ok (.isub, 1) := by decide +kernel
theorem d85_358 : decode prog_10_method_25_code 358 = .ok (.ireturn, 1) := by decide +kernel

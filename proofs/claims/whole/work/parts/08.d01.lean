/-! decode rows, printed by a program of mine out of the listing -/
theorem d25_0 : decode prog_7_method_8_code 0 = .ok (.iload_n 1, 1) := by decide +kernel
theorem d25_1 : decode prog_7_method_8_code 1 = .ok (.iconst (-1), 1) := by decide +kernel
theorem d25_2 : decode prog_7_method_8_code 2 = .ok (.if_icmp .ne 7, 3) := by decide +kernel
theorem d25_5 : decode prog_7_method_8_code 5 = .ok (.iconst 0, 1) := by decide +kernel
theorem d25_6 : decode prog_7_method_8_code 6 = .ok (.goto 9, 3) := by decide +kernel
theorem d25_9 : decode prog_7_method_8_code 9 = .ok (.aload_n 0, 1) := by decide +kernel
theorem d25_10 : decode prog_7_method_8_code 10 = .ok (.getfield 24, 3) := by decide +kernel
theorem d25_13 : decode prog_7_method_8_code 13 = .ok (.iload_n 1, 1) := by decide +kernel
theorem d25_14 : decode prog_7_method_8_code 14 = .ok (.iaload, 1) := by decide +kernel
theorem d25_15 : decode prog_7_method_8_code 15 = .ok (.ireturn, 1) := by decide +kernel
theorem d26_0 : decode prog_7_method_9_code 0 = .ok (.iload_n 1, 1) := by decide +kernel
theorem d26_1 : decode prog_7_method_9_code 1 = .ok (.ifCond .lt 27, 3) := by decide +kernel
theorem d26_4 : decode prog_7_method_9_code 4 = .ok (.iload_n 1, 1) := by decide +kernel
theorem d26_5 : decode prog_7_method_9_code 5 = .ok (.bipush 8, 2) := by decide +kernel
theorem d26_7 : decode prog_7_method_9_code 7 = .ok (.if_icmp .ge 21, 3) := by decide +kernel
theorem d26_10 : decode prog_7_method_9_code 10 = .ok (.aload_n 0, 1) := by decide +kernel
theorem d26_11 : decode prog_7_method_9_code 11 = .ok (.getfield 27, 3) := by decide +kernel
theorem d26_14 : decode prog_7_method_9_code 14 = .ok (.iload_n 1, 1) := by decide +kernel
theorem d26_15 : decode prog_7_method_9_code 15 = .ok (.baload, 1) := by decide +kernel
theorem d26_16 : decode prog_7_method_9_code 16 = .ok (.ifCond .ne 12, 3) := by decide +kernel
theorem d26_19 : decode prog_7_method_9_code 19 = .ok (.aload_n 0, 1) := by decide +kernel
theorem d26_20 : decode prog_7_method_9_code 20 = .ok (.iload 5, 2) := by decide +kernel
theorem d26_22 : decode prog_7_method_9_code 22 = .ok (.invokevirtual 64, 3) := by decide +kernel
theorem d26_25 : decode prog_7_method_9_code 25 = .ok (.ifCond .ne 5, 3) := by decide +kernel
theorem d26_28 : decode prog_7_method_9_code 28 = .ok (.iconst (-1), 1) := by decide +kernel
theorem d26_29 : decode prog_7_method_9_code 29 = .ok (.ireturn, 1) := by decide +kernel
theorem d26_30 : decode prog_7_method_9_code 30 = .ok (.iload_n 2, 1) := by decide +kernel
theorem d26_31 : decode prog_7_method_9_code 31 = .ok (.invokestatic 85, 3) := by decide +kernel
theorem d26_34 : decode prog_7_method_9_code 34 = .ok (.ifCond .eq 18, 3) := by decide +kernel
theorem d26_37 : decode prog_7_method_9_code 37 = .ok (.iload_n 3, 1) := by decide +kernel
theorem d26_38 : decode prog_7_method_9_code 38 = .ok (.invokestatic 85, 3) := by decide +kernel
theorem d26_41 : decode prog_7_method_9_code 41 = .ok (.ifCond .eq 11, 3) := by decide +kernel
theorem d26_44 : decode prog_7_method_9_code 44 = .ok (.iload 4, 2) := by decide +kernel
theorem d26_46 : decode prog_7_method_9_code 46 = .ok (.invokestatic 88, 3) := by decide +kernel
theorem d26_49 : decode prog_7_method_9_code 49 = .ok (.ifCond .ne 5, 3) := by decide +kernel
theorem d26_52 : decode prog_7_method_9_code 52 = .ok (.iconst (-1), 1) := by decide +kernel
theorem d26_53 : decode prog_7_method_9_code 53 = .ok (.ireturn, 1) := by decide +kernel
theorem d26_54 : decode prog_7_method_9_code 54 = .ok (.aload_n 0, 1) := by decide +kernel
theorem d26_55 : decode prog_7_method_9_code 55 = .ok (.getfield 27, 3) := by decide +kernel
theorem d26_58 : decode prog_7_method_9_code 58 = .ok (.iload_n 1, 1) := by decide +kernel
theorem d26_59 : decode prog_7_method_9_code 59 = .ok (.iconst 1, 1) := by decide +kernel
theorem d26_60 : decode prog_7_method_9_code 60 = .ok (.bastore, 1) := by decide +kernel
theorem d26_61 : decode prog_7_method_9_code 61 = .ok (.aload_n 0, 1) := by decide +kernel
theorem d26_62 : decode prog_7_method_9_code 62 = .ok (.getfield 31, 3) := by decide +kernel
theorem d26_65 : decode prog_7_method_9_code 65 = .ok (.iload_n 1, 1) := by decide +kernel
theorem d26_66 : decode prog_7_method_9_code 66 = .ok (.iload_n 2, 1) := by decide +kernel
theorem d26_67 : decode prog_7_method_9_code 67 = .ok (.iastore, 1) := by decide +kernel
theorem d26_68 : decode prog_7_method_9_code 68 = .ok (.aload_n 0, 1) := by decide +kernel
theorem d26_69 : decode prog_7_method_9_code 69 = .ok (.getfield 34, 3) := by decide +kernel
theorem d26_72 : decode prog_7_method_9_code 72 = .ok (.iload_n 1, 1) := by decide +kernel
theorem d26_73 : decode prog_7_method_9_code 73 = .ok (.iload_n 3, 1) := by decide +kernel
theorem d26_74 : decode prog_7_method_9_code 74 = .ok (.iastore, 1) := by decide +kernel
theorem d26_75 : decode prog_7_method_9_code 75 = .ok (.aload_n 0, 1) := by decide +kernel
theorem d26_76 : decode prog_7_method_9_code 76 = .ok (.getfield 37, 3) := by decide +kernel
theorem d26_79 : decode prog_7_method_9_code 79 = .ok (.iload_n 1, 1) := by decide +kernel
theorem d26_80 : decode prog_7_method_9_code 80 = .ok (.iload 4, 2) := by decide +kernel
theorem d26_82 : decode prog_7_method_9_code 82 = .ok (.iastore, 1) := by decide +kernel
theorem d26_83 : decode prog_7_method_9_code 83 = .ok (.aload_n 0, 1) := by decide +kernel
theorem d26_84 : decode prog_7_method_9_code 84 = .ok (.getfield 40, 3) := by decide +kernel
theorem d26_87 : decode prog_7_method_9_code 87 = .ok (.iload_n 1, 1) := by decide +kernel
theorem d26_88 : decode prog_7_method_9_code 88 = .ok (.iload 5, 2) := by decide +kernel
theorem d26_90 : decode prog_7_method_9_code 90 = .ok (.iastore, 1) := by decide +kernel
theorem d26_91 : decode prog_7_method_9_code 91 = .ok (.aload_n 0, 1) := by decide +kernel
theorem d26_92 : decode prog_7_method_9_code 92 = .ok (.dup, 1) := by decide +kernel
theorem d26_93 : decode prog_7_method_9_code 93 = .ok (.getfield 47, 3) := by decide +kernel
theorem d26_96 : decode prog_7_method_9_code 96 = .ok (.iconst 1, 1) := by decide +kernel
theorem d26_97 : decode prog_7_method_9_code 97 = .ok (.iadd, 1) := by decide +kernel
theorem d26_98 : decode prog_7_method_9_code 98 = .ok (.putfield 47, 3) := by decide +kernel
theorem d26_101 : decode prog_7_method_9_code 101 = .ok (.iconst 0, 1) := by decide +kernel
theorem d26_102 : decode prog_7_method_9_code 102 = .ok (.ireturn, 1) := by decide +kernel
theorem d27_0 : decode prog_7_method_10_code 0 = .ok (.iconst 0, 1) := by decide +kernel
theorem d27_1 : decode prog_7_method_10_code 1 = .ok (.istore_n 2, 1) := by decide +kernel
theorem d27_2 : decode prog_7_method_10_code 2 = .ok (.iconst 0, 1) := by decide +kernel
theorem d27_3 : decode prog_7_method_10_code 3 = .ok (.istore_n 3, 1) := by decide +kernel
theorem d27_4 : decode prog_7_method_10_code 4 = .ok (.iload_n 3, 1) := by decide +kernel
theorem d27_5 : decode prog_7_method_10_code 5 = .ok (.aload_n 0, 1) := by decide +kernel
theorem d27_6 : decode prog_7_method_10_code 6 = .ok (.getfield 43, 3) := by decide +kernel
theorem d27_9 : decode prog_7_method_10_code 9 = .ok (.if_icmp .ge 41, 3) := by decide +kernel
theorem d27_12 : decode prog_7_method_10_code 12 = .ok (.aload_n 0, 1) := by decide +kernel
theorem d27_13 : decode prog_7_method_10_code 13 = .ok (.getfield 9, 3) := by decide +kernel
theorem d27_16 : decode prog_7_method_10_code 16 = .ok (.iload_n 3, 1) := by decide +kernel
theorem d27_17 : decode prog_7_method_10_code 17 = .ok (.iaload, 1) := by decide +kernel
theorem d27_18 : decode prog_7_method_10_code 18 = .ok (.invokestatic 91, 3) := by decide +kernel
theorem d27_21 : decode prog_7_method_10_code 21 = .ok (.ifCond .eq 23, 3) := by decide +kernel
theorem d27_24 : decode prog_7_method_10_code 24 = .ok (.aload_n 1, 1) := by decide +kernel
theorem d27_25 : decode prog_7_method_10_code 25 = .ok (.iload_n 3, 1) := by decide +kernel
theorem d27_26 : decode prog_7_method_10_code 26 = .ok (.invokevirtual 94, 3) := by decide +kernel
theorem d27_29 : decode prog_7_method_10_code 29 = .ok (.ifCond .eq 15, 3) := by decide +kernel
theorem d27_32 : decode prog_7_method_10_code 32 = .ok (.aload_n 1, 1) := by decide +kernel
theorem d27_33 : decode prog_7_method_10_code 33 = .ok (.getfield 99, 3) := by decide +kernel
theorem d27_36 : decode prog_7_method_10_code 36 = .ok (.iload_n 3, 1) := by decide +kernel
theorem d27_37 : decode prog_7_method_10_code 37 = .ok (.baload, 1) := by decide +kernel
theorem d27_38 : decode prog_7_method_10_code 38 = .ok (.ifCond .ne 6, 3) := by decide +kernel
theorem d27_41 : decode prog_7_method_10_code 41 = .ok (.iinc 2 1, 3) := by decide +kernel
theorem d27_44 : decode prog_7_method_10_code 44 = .ok (.iinc 3 1, 3) := by decide +kernel
theorem d27_47 : decode prog_7_method_10_code 47 = .ok (.goto (-43), 3) := by decide +kernel
theorem d27_50 : decode prog_7_method_10_code 50 = .ok (.iload_n 2, 1) := by decide +kernel
theorem d27_51 : decode prog_7_method_10_code 51 = .ok (.ireturn, 1) := by decide +kernel
theorem d28_0 : decode prog_3_method_2_code 0 = .ok (.iload_n 1, 1) := by decide +kernel
theorem d28_1 : decode prog_3_method_2_code 1 = .ok (.ifCond .lt 15, 3) := by decide +kernel
theorem d28_4 : decode prog_3_method_2_code 4 = .ok (.iload_n 1, 1) := by decide +kernel
theorem d28_5 : decode prog_3_method_2_code 5 = .ok (.aload_n 0, 1) := by decide +kernel
theorem d28_6 : decode prog_3_method_2_code 6 = .ok (.getfield 22, 3) := by decide +kernel
theorem d28_9 : decode prog_3_method_2_code 9 = .ok (.if_icmp .ge 7, 3) := by decide +kernel
theorem d28_12 : decode prog_3_method_2_code 12 = .ok (.iconst 1, 1) := by decide +kernel
theorem d28_13 : decode prog_3_method_2_code 13 = .ok (.goto 4, 3) := by decide +kernel
theorem d28_16 : decode prog_3_method_2_code 16 = .ok (.iconst 0, 1) := by decide +kernel
theorem d28_17 : decode prog_3_method_2_code 17 = .ok (.ireturn, 1) := by decide +kernel
theorem d29_0 : decode prog_3_method_3_code 0 = .ok (.aload_n 0, 1) := by decide +kernel
theorem d29_1 : decode prog_3_method_3_code 1 = .ok (.iconst 0, 1) := by decide +kernel
theorem d29_2 : decode prog_3_method_3_code 2 = .ok (.putfield 22, 3) := by decide +kernel
theorem d29_5 : decode prog_3_method_3_code 5 = .ok (.aload_n 0, 1) := by decide +kernel
theorem d29_6 : decode prog_3_method_3_code 6 = .ok (.iconst 0, 1) := by decide +kernel
theorem d29_7 : decode prog_3_method_3_code 7 = .ok (.putfield 26, 3) := by decide +kernel
theorem d29_10 : decode prog_3_method_3_code 10 = .ok (.aload_n 0, 1) := by decide +kernel
theorem d29_11 : decode prog_3_method_3_code 11 = .ok (.iconst (-1), 1) := by decide +kernel
theorem d29_12 : decode prog_3_method_3_code 12 = .ok (.putfield 29, 3) := by decide +kernel
theorem d29_15 : decode prog_3_method_3_code 15 = .ok (.aload_n 0, 1) := by decide +kernel
theorem d29_16 : decode prog_3_method_3_code 16 = .ok (.iload_n 1, 1) := by decide +kernel
theorem d29_17 : decode prog_3_method_3_code 17 = .ok (.lload_n 2, 1) := by decide +kernel
theorem d29_18 : decode prog_3_method_3_code 18 = .ok (.lload 4, 2) := by decide +kernel
theorem d29_20 : decode prog_3_method_3_code 20 = .ok (.invokevirtual 32, 3) := by decide +kernel
theorem d29_23 : decode prog_3_method_3_code 23 = .ok (.istore 6, 2) := by decide +kernel
theorem d29_25 : decode prog_3_method_3_code 25 = .ok (.iload 6, 2) := by decide +kernel
theorem d29_27 : decode prog_3_method_3_code 27 = .ok (.ifCond .ge 15, 3) := by decide +kernel
theorem d29_30 : decode prog_3_method_3_code 30 = .ok (.aload_n 0, 1) := by decide +kernel
theorem d29_31 : decode prog_3_method_3_code 31 = .ok (.iload_n 1, 1) := by decide +kernel
theorem d29_32 : decode prog_3_method_3_code 32 = .ok (.bipush 63, 2) := by decide +kernel
theorem d29_34 : decode prog_3_method_3_code 34 = .ok (.iload 6, 2) := by decide +kernel
theorem d29_36 : decode prog_3_method_3_code 36 = .ok (.invokevirtual 36, 3) := by decide +kernel
theorem d29_39 : decode prog_3_method_3_code 39 = .ok (.ifCond .eq 7, 3) := by decide +kernel
theorem d29_42 : decode prog_3_method_3_code 42 = .ok (.iconst 1, 1) := by decide +kernel
theorem d29_43 : decode prog_3_method_3_code 43 = .ok (.goto 4, 3) := by decide +kernel
theorem d29_46 : decode prog_3_method_3_code 46 = .ok (.iconst 0, 1) := by decide +kernel
theorem d29_47 : decode prog_3_method_3_code 47 = .ok (.istore 7, 2) := by decide +kernel
theorem d29_49 : decode prog_3_method_3_code 49 = .ok (.iconst 0, 1) := by decide +kernel
theorem d29_50 : decode prog_3_method_3_code 50 = .ok (.istore 8, 2) := by decide +kernel
theorem d29_52 : decode prog_3_method_3_code 52 = .ok (.iload 7, 2) := by decide +kernel
theorem d29_54 : decode prog_3_method_3_code 54 = .ok (.ifCond .eq 85, 3) := by decide +kernel
theorem d29_57 : decode prog_3_method_3_code 57 = .ok (.iload 8, 2) := by decide +kernel
theorem d29_59 : decode prog_3_method_3_code 59 = .ok (.aload_n 0, 1) := by decide +kernel
theorem d29_60 : decode prog_3_method_3_code 60 = .ok (.getfield 22, 3) := by decide +kernel
theorem d29_63 : decode prog_3_method_3_code 63 = .ok (.if_icmp .ge 76, 3) := by decide +kernel
theorem d29_66 : decode prog_3_method_3_code 66 = .ok (.iload 8, 2) := by decide +kernel
theorem d29_68 : decode prog_3_method_3_code 68 = .ok (.bipush 20, 2) := by decide +kernel
theorem d29_70 : decode prog_3_method_3_code 70 = .ok (.if_icmp .ge 69, 3) := by decide +kernel
theorem d29_73 : decode prog_3_method_3_code 73 = .ok (.aload_n 0, 1) := by decide +kernel
theorem d29_74 : decode prog_3_method_3_code 74 = .ok (.getfield 17, 3) := by decide +kernel
theorem d29_77 : decode prog_3_method_3_code 77 = .ok (.iload 8, 2) := by decide +kernel
theorem d29_79 : decode prog_3_method_3_code 79 = .ok (.aaload, 1) := by decide +kernel
theorem d29_80 : decode prog_3_method_3_code 80 = .ok (.astore 9, 2) := by decide +kernel
theorem d29_82 : decode prog_3_method_3_code 82 = .ok (.aload_n 0, 1) := by decide +kernel
theorem d29_83 : decode prog_3_method_3_code 83 = .ok (.getfield 9, 3) := by decide +kernel
theorem d29_86 : decode prog_3_method_3_code 86 = .ok (.getfield 40, 3) := by decide +kernel
theorem d29_89 : decode prog_3_method_3_code 89 = .ok (.aload 9, 2) := by decide +kernel
theorem d29_91 : decode prog_3_method_3_code 91 = .ok (.getfield 46, 3) := by decide +kernel
theorem d29_94 : decode prog_3_method_3_code 94 = .ok (.iaload, 1) := by decide +kernel
theorem d29_95 : decode prog_3_method_3_code 95 = .ok (.istore 10, 2) := by decide +kernel
theorem d29_97 : decode prog_3_method_3_code 97 = .ok (.aload_n 0, 1) := by decide +kernel
theorem d29_98 : decode prog_3_method_3_code 98 = .ok (.aload 9, 2) := by decide +kernel
theorem d29_100 : decode prog_3_method_3_code 100 = .ok (.iload 10, 2) := by decide +kernel
theorem d29_102 : decode prog_3_method_3_code 102 = .ok (.invokevirtual 49, 3) := by decide +kernel
theorem d29_105 : decode prog_3_method_3_code 105 = .ok (.ifCond .eq 25, 3) := by decide +kernel
theorem d29_108 : decode prog_3_method_3_code 108 = .ok (.aload_n 0, 1) := by decide +kernel
theorem d29_109 : decode prog_3_method_3_code 109 = .ok (.aload 9, 2) := by decide +kernel
theorem d29_111 : decode prog_3_method_3_code 111 = .ok (.iload 10, 2) := by decide +kernel
theorem d29_113 : decode prog_3_method_3_code 113 = .ok (.iload 10, 2) := by decide +kernel
theorem d29_115 : decode prog_3_method_3_code 115 = .ok (.aload 9, 2) := by decide +kernel
theorem d29_117 : decode prog_3_method_3_code 117 = .ok (.getfield 53, 3) := by decide +kernel
theorem d29_120 : decode prog_3_method_3_code 120 = .ok (.invokevirtual 56, 3) := by decide +kernel
theorem d29_123 : decode prog_3_method_3_code 123 = .ok (.ifCond .eq 7, 3) := by decide +kernel
theorem d29_126 : decode prog_3_method_3_code 126 = .ok (.iconst 1, 1) := by decide +kernel
theorem d29_127 : decode prog_3_method_3_code 127 = .ok (.goto 4, 3) := by decide +kernel
theorem d29_130 : decode prog_3_method_3_code 130 = .ok (.iconst 0, 1) := by decide +kernel
theorem d29_131 : decode prog_3_method_3_code 131 = .ok (.istore 7, 2) := by decide +kernel
theorem d29_133 : decode prog_3_method_3_code 133 = .ok (.iinc 8 1, 3) := by decide +kernel
theorem d29_136 : decode prog_3_method_3_code 136 = .ok (.goto (-84), 3) := by decide +kernel
theorem d29_139 : decode prog_3_method_3_code 139 = .ok (.iload 7, 2) := by decide +kernel
theorem d29_141 : decode prog_3_method_3_code 141 = .ok (.ifCond .ne 13, 3) := by decide +kernel
theorem d29_144 : decode prog_3_method_3_code 144 = .ok (.aload_n 0, 1) := by decide +kernel
theorem d29_145 : decode prog_3_method_3_code 145 = .ok (.iconst 0, 1) := by decide +kernel
theorem d29_146 : decode prog_3_method_3_code 146 = .ok (.putfield 22, 3) := by decide +kernel
theorem d29_149 : decode prog_3_method_3_code 149 = .ok (.aload_n 0, 1) := by decide +kernel
theorem d29_150 : decode prog_3_method_3_code 150 = .ok (.getfield 26, 3) := by decide +kernel
theorem d29_153 : decode prog_3_method_3_code 153 = .ok (.ireturn, 1) := by decide +kernel
theorem d29_154 : decode prog_3_method_3_code 154 = .ok (.aload_n 0, 1) := by decide +kernel
theorem d29_155 : decode prog_3_method_3_code 155 = .ok (.getfield 22, 3) := by decide +kernel
theorem d29_158 : decode prog_3_method_3_code 158 = .ok (.ireturn, 1) := by decide +kernel
theorem d30_0 : decode prog_3_method_4_code 0 = .ok (.aload_n 0, 1) := by decide +kernel
theorem d30_1 : decode prog_3_method_4_code 1 = .ok (.iload_n 3, 1) := by decide +kernel
theorem d30_2 : decode prog_3_method_4_code 2 = .ok (.putfield 26, 3) := by decide +kernel
theorem d30_5 : decode prog_3_method_4_code 5 = .ok (.aload_n 0, 1) := by decide +kernel
theorem d30_6 : decode prog_3_method_4_code 6 = .ok (.bipush 64, 2) := by decide +kernel
theorem d30_8 : decode prog_3_method_4_code 8 = .ok (.iload_n 1, 1) := by decide +kernel
theorem d30_9 : decode prog_3_method_4_code 9 = .ok (.imul, 1) := by decide +kernel
theorem d30_10 : decode prog_3_method_4_code 10 = .ok (.iload_n 2, 1) := by decide +kernel
theorem d30_11 : decode prog_3_method_4_code 11 = .ok (.iadd, 1) := by decide +kernel
theorem d30_12 : decode prog_3_method_4_code 12 = .ok (.putfield 29, 3) := by decide +kernel
theorem d30_15 : decode prog_3_method_4_code 15 = .ok (.iconst 0, 1) := by decide +kernel
theorem d30_16 : decode prog_3_method_4_code 16 = .ok (.ireturn, 1) := by decide +kernel
theorem d31_0 : decode prog_3_method_5_code 0 = .ok (.iconst 0, 1) := by decide +kernel
theorem d31_1 : decode prog_3_method_5_code 1 = .ok (.istore 6, 2) := by decide +kernel
theorem d31_3 : decode prog_3_method_5_code 3 = .ok (.iload 6, 2) := by decide +kernel
theorem d31_5 : decode prog_3_method_5_code 5 = .ok (.aload_n 0, 1) := by decide +kernel
theorem d31_6 : decode prog_3_method_5_code 6 = .ok (.getfield 22, 3) := by decide +kernel
theorem d31_9 : decode prog_3_method_5_code 9 = .ok (.if_icmp .ge 29, 3) := by decide +kernel
theorem d31_12 : decode prog_3_method_5_code 12 = .ok (.aload_n 0, 1) := by decide +kernel
theorem d31_13 : decode prog_3_method_5_code 13 = .ok (.getfield 17, 3) := by decide +kernel
theorem d31_16 : decode prog_3_method_5_code 16 = .ok (.iload 6, 2) := by decide +kernel
theorem d31_18 : decode prog_3_method_5_code 18 = .ok (.aaload, 1) := by decide +kernel
theorem d31_19 : decode prog_3_method_5_code 19 = .ok (.iload_n 1, 1) := by decide +kernel
theorem d31_20 : decode prog_3_method_5_code 20 = .ok (.lload_n 2, 1) := by decide +kernel
theorem d31_21 : decode prog_3_method_5_code 21 = .ok (.lload 4, 2) := by decide +kernel
theorem d31_23 : decode prog_3_method_5_code 23 = .ok (.invokevirtual 60, 3) := by decide +kernel
theorem d31_26 : decode prog_3_method_5_code 26 = .ok (.ifCond .eq 6, 3) := by decide +kernel
theorem d31_29 : decode prog_3_method_5_code 29 = .ok (.iload 6, 2) := by decide +kernel
theorem d31_31 : decode prog_3_method_5_code 31 = .ok (.ireturn, 1) := by decide +kernel
theorem d31_32 : decode prog_3_method_5_code 32 = .ok (.iinc 6 1, 3) := by decide +kernel
theorem d31_35 : decode prog_3_method_5_code 35 = .ok (.goto (-32), 3) := by decide +kernel
theorem d31_38 : decode prog_3_method_5_code 38 = .ok (.aload_n 0, 1) := by decide +kernel
theorem d31_39 : decode prog_3_method_5_code 39 = .ok (.getfield 22, 3) := by decide +kernel
theorem d31_42 : decode prog_3_method_5_code 42 = .ok (.bipush 20, 2) := by decide +kernel
theorem d31_44 : decode prog_3_method_5_code 44 = .ok (.if_icmp .lt 6, 3) := by decide +kernel
theorem d31_47 : decode prog_3_method_5_code 47 = .ok (.bipush (-7), 2) := by decide +kernel
theorem d31_49 : decode prog_3_method_5_code 49 = .ok (.ireturn, 1) := by decide +kernel
theorem d31_50 : decode prog_3_method_5_code 50 = .ok (.aload_n 0, 1) := by decide +kernel
theorem d31_51 : decode prog_3_method_5_code 51 = .ok (.getfield 17, 3) := by decide +kernel
theorem d31_54 : decode prog_3_method_5_code 54 = .ok (.aload_n 0, 1) := by decide +kernel
theorem d31_55 : decode prog_3_method_5_code 55 = .ok (.getfield 22, 3) := by decide +kernel
theorem d31_58 : decode prog_3_method_5_code 58 = .ok (.aaload, 1) := by decide +kernel
theorem d31_59 : decode prog_3_method_5_code 59 = .ok (.aload_n 0, 1) := by decide +kernel
theorem d31_60 : decode prog_3_method_5_code 60 = .ok (.getfield 9, 3) := by decide +kernel
theorem d31_63 : decode prog_3_method_5_code 63 = .ok (.iload_n 1, 1) := by decide +kernel
theorem d31_64 : decode prog_3_method_5_code 64 = .ok (.lload_n 2, 1) := by decide +kernel
theorem d31_65 : decode prog_3_method_5_code 65 = .ok (.lload 4, 2) := by decide +kernel
theorem d31_67 : decode prog_3_method_5_code 67 = .ok (.invokevirtual 64, 3) := by decide +kernel
theorem d31_70 : decode prog_3_method_5_code 70 = .ok (.ifCond .ne 6, 3) := by decide +kernel
theorem d31_73 : decode prog_3_method_5_code 73 = .ok (.bipush (-4), 2) := by decide +kernel
theorem d31_75 : decode prog_3_method_5_code 75 = .ok (.ireturn, 1) := by decide +kernel
theorem d31_76 : decode prog_3_method_5_code 76 = .ok (.aload_n 0, 1) := by decide +kernel
theorem d31_77 : decode prog_3_method_5_code 77 = .ok (.dup, 1) := by decide +kernel
theorem d31_78 : decode prog_3_method_5_code 78 = .ok (.getfield 22, 3) := by decide +kernel
theorem d31_81 : decode prog_3_method_5_code 81 = .ok (.iconst 1, 1) := by decide +kernel
theorem d31_82 : decode prog_3_method_5_code 82 = .ok (.iadd, 1) := by decide +kernel
theorem d31_83 : decode prog_3_method_5_code 83 = .ok (.putfield 22, 3) := by decide +kernel
theorem d31_86 : decode prog_3_method_5_code 86 = .ok (.aload_n 0, 1) := by decide +kernel
theorem d31_87 : decode prog_3_method_5_code 87 = .ok (.getfield 22, 3) := by decide +kernel
theorem d31_90 : decode prog_3_method_5_code 90 = .ok (.iconst 1, 1) := by decide +kernel
theorem d31_91 : decode prog_3_method_5_code 91 = .ok (.isub, 1) := by decide +kernel
theorem d31_92 : decode prog_3_method_5_code 92 = .ok (.ireturn, 1) := by decide +kernel
theorem d32_0 : decode prog_3_method_6_code 0 = .ok (.aload_n 1, 1) := by decide +kernel
theorem d32_1 : decode prog_3_method_6_code 1 = .ok (.getfield 68, 3) := by decide +kernel
theorem d32_4 : decode prog_3_method_6_code 4 = .ok (.iload_n 3, 1) := by decide +kernel
theorem d32_5 : decode prog_3_method_6_code 5 = .ok (.iaload, 1) := by decide +kernel
theorem d32_6 : decode prog_3_method_6_code 6 = .ok (.iload 4, 2) := by decide +kernel
theorem d32_8 : decode prog_3_method_6_code 8 = .ok (.if_icmp .ne 5, 3) := by decide +kernel
theorem d32_11 : decode prog_3_method_6_code 11 = .ok (.iconst 1, 1) := by decide +kernel
theorem d32_12 : decode prog_3_method_6_code 12 = .ok (.ireturn, 1) := by decide +kernel
theorem d32_13 : decode prog_3_method_6_code 13 = .ok (.aload_n 1, 1) := by decide +kernel
theorem d32_14 : decode prog_3_method_6_code 14 = .ok (.getfield 68, 3) := by decide +kernel
theorem d32_17 : decode prog_3_method_6_code 17 = .ok (.iload_n 3, 1) := by decide +kernel
theorem d32_18 : decode prog_3_method_6_code 18 = .ok (.iaload, 1) := by decide +kernel
theorem d32_19 : decode prog_3_method_6_code 19 = .ok (.sipush 300, 3) := by decide +kernel
theorem d32_22 : decode prog_3_method_6_code 22 = .ok (.if_icmp .ne 11, 3) := by decide +kernel
theorem d32_25 : decode prog_3_method_6_code 25 = .ok (.iload 4, 2) := by decide +kernel
theorem d32_27 : decode prog_3_method_6_code 27 = .ok (.invokestatic 73, 3) := by decide +kernel
theorem d32_30 : decode prog_3_method_6_code 30 = .ok (.ifCond .ne 15, 3) := by decide +kernel
theorem d32_33 : decode prog_3_method_6_code 33 = .ok (.aload_n 0, 1) := by decide +kernel
theorem d32_34 : decode prog_3_method_6_code 34 = .ok (.aload_n 1, 1) := by decide +kernel
theorem d32_35 : decode prog_3_method_6_code 35 = .ok (.getfield 46, 3) := by decide +kernel
theorem d32_38 : decode prog_3_method_6_code 38 = .ok (.iload_n 2, 1) := by decide +kernel
theorem d32_39 : decode prog_3_method_6_code 39 = .ok (.bipush (-2), 2) := by decide +kernel
theorem d32_41 : decode prog_3_method_6_code 41 = .ok (.invokevirtual 36, 3) := by decide +kernel
theorem d32_44 : decode prog_3_method_6_code 44 = .ok (.ireturn, 1) := by decide +kernel
theorem d32_45 : decode prog_3_method_6_code 45 = .ok (.iload 4, 2) := by decide +kernel
theorem d32_47 : decode prog_3_method_6_code 47 = .ok (.aload_n 1, 1) := by decide +kernel
theorem d32_48 : decode prog_3_method_6_code 48 = .ok (.getfield 77, 3) := by decide +kernel
theorem d32_51 : decode prog_3_method_6_code 51 = .ok (.iload_n 3, 1) := by decide +kernel
theorem d32_52 : decode prog_3_method_6_code 52 = .ok (.laload, 1) := by decide +kernel
theorem d32_53 : decode prog_3_method_6_code 53 = .ok (.invokestatic 81, 3) := by decide +kernel
theorem d32_56 : decode prog_3_method_6_code 56 = .ok (.ifCond .ne 17, 3) := by decide +kernel
theorem d32_59 : decode prog_3_method_6_code 59 = .ok (.aload_n 0, 1) := by decide +kernel
theorem d32_60 : decode prog_3_method_6_code 60 = .ok (.aload_n 1, 1) := by decide +kernel
theorem d32_61 : decode prog_3_method_6_code 61 = .ok (.getfield 46, 3) := by decide +kernel
theorem d32_64 : decode prog_3_method_6_code 64 = .ok (.iload_n 2, 1) := by decide +kernel
theorem d32_65 : decode prog_3_method_6_code 65 = .ok (.bipush (-3), 2) := by decide +kernel
theorem d32_67 : decode prog_3_method_6_code 67 = .ok (.invokevirtual 36, 3) := by decide +kernel
theorem d32_70 : decode prog_3_method_6_code 70 = .ok (.ifCond .eq 7, 3) := by decide +kernel
theorem d32_73 : decode prog_3_method_6_code 73 = .ok (.iconst 1, 1) := by decide +kernel
theorem d32_74 : decode prog_3_method_6_code 74 = .ok (.goto 4, 3) := by decide +kernel
theorem d32_77 : decode prog_3_method_6_code 77 = .ok (.iconst 0, 1) := by decide +kernel
theorem d32_78 : decode prog_3_method_6_code 78 = .ok (.ireturn, 1) := by decide +kernel
theorem d33_0 : decode prog_3_method_7_code 0 = .ok (.aload_n 1, 1) := by decide +kernel
theorem d33_1 : decode prog_3_method_7_code 1 = .ok (.iload_n 2, 1) := by decide +kernel
theorem d33_2 : decode prog_3_method_7_code 2 = .ok (.invokevirtual 85, 3) := by decide +kernel
theorem d33_5 : decode prog_3_method_7_code 5 = .ok (.ifCond .eq 5, 3) := by decide +kernel
theorem d33_8 : decode prog_3_method_7_code 8 = .ok (.iconst 1, 1) := by decide +kernel
theorem d33_9 : decode prog_3_method_7_code 9 = .ok (.ireturn, 1) := by decide +kernel
theorem d33_10 : decode prog_3_method_7_code 10 = .ok (.aload_n 0, 1) := by decide +kernel
theorem d33_11 : decode prog_3_method_7_code 11 = .ok (.getfield 9, 3) := by decide +kernel
theorem d33_14 : decode prog_3_method_7_code 14 = .ok (.getfield 88, 3) := by decide +kernel
theorem d33_17 : decode prog_3_method_7_code 17 = .ok (.iload_n 2, 1) := by decide +kernel
theorem d33_18 : decode prog_3_method_7_code 18 = .ok (.iaload, 1) := by decide +kernel
theorem d33_19 : decode prog_3_method_7_code 19 = .ok (.tableswitch 135 0 16 #[81, 100, 135, 135, 135, 135, 135, 135, 135, 135, 135, 135, 135, 107, 114, 121, 128], 81) := by decide +kernel
theorem tk33_19 : mm_tk 0 16 #[81, 100, 135, 135, 135, 135, 135, 135, 135, 135, 135, 135, 135, 107, 114, 121, 128] := by unfold mm_tk; decide +kernel
theorem d33_100 : decode prog_3_method_7_code 100 = .ok (.aload_n 1, 1) := by decide +kernel
theorem d33_101 : decode prog_3_method_7_code 101 = .ok (.iload_n 2, 1) := by decide +kernel
theorem d33_102 : decode prog_3_method_7_code 102 = .ok (.sipush 300, 3) := by decide +kernel
theorem d33_105 : decode prog_3_method_7_code 105 = .ok (.aload_n 0, 1) := by decide +kernel
theorem d33_106 : decode prog_3_method_7_code 106 = .ok (.getfield 9, 3) := by decide +kernel
theorem d33_109 : decode prog_3_method_7_code 109 = .ok (.getfield 91, 3) := by decide +kernel
theorem d33_112 : decode prog_3_method_7_code 112 = .ok (.iload_n 2, 1) := by decide +kernel
theorem d33_113 : decode prog_3_method_7_code 113 = .ok (.iaload, 1) := by decide +kernel
theorem d33_114 : decode prog_3_method_7_code 114 = .ok (.i2l, 1) := by decide +kernel
theorem d33_115 : decode prog_3_method_7_code 115 = .ok (.invokevirtual 94, 3) := by decide +kernel
theorem d33_118 : decode prog_3_method_7_code 118 = .ok (.ireturn, 1) := by decide +kernel
theorem d33_119 : decode prog_3_method_7_code 119 = .ok (.aload_n 0, 1) := by decide +kernel
theorem d33_120 : decode prog_3_method_7_code 120 = .ok (.aload_n 1, 1) := by decide +kernel
theorem d33_121 : decode prog_3_method_7_code 121 = .ok (.iload_n 2, 1) := by decide +kernel
theorem d33_122 : decode prog_3_method_7_code 122 = .ok (.invokevirtual 98, 3) := by decide +kernel
theorem d33_125 : decode prog_3_method_7_code 125 = .ok (.ireturn, 1) := by decide +kernel
theorem d33_126 : decode prog_3_method_7_code 126 = .ok (.aload_n 0, 1) := by decide +kernel
theorem d33_127 : decode prog_3_method_7_code 127 = .ok (.aload_n 1, 1) := by decide +kernel
theorem d33_128 : decode prog_3_method_7_code 128 = .ok (.iload_n 2, 1) := by decide +kernel
theorem d33_129 : decode prog_3_method_7_code 129 = .ok (.invokevirtual 101, 3) := by decide +kernel
theorem d33_132 : decode prog_3_method_7_code 132 = .ok (.ireturn, 1) := by decide +kernel
theorem d33_133 : decode prog_3_method_7_code 133 = .ok (.aload_n 0, 1) := by decide +kernel
theorem d33_134 : decode prog_3_method_7_code 134 = .ok (.aload_n 1, 1) := by decide +kernel
theorem d33_135 : decode prog_3_method_7_code 135 = .ok (.iload_n 2, 1) := by decide +kernel
theorem d33_136 : decode prog_3_method_7_code 136 = .ok (.invokevirtual 104, 3) := by decide +kernel
theorem d33_139 : decode prog_3_method_7_code 139 = .ok (.ireturn, 1) := by decide +kernel
theorem d33_140 : decode prog_3_method_7_code 140 = .ok (.aload_n 0, 1) := by decide +kernel
theorem d33_141 : decode prog_3_method_7_code 141 = .ok (.aload_n 1, 1) := by decide +kernel
theorem d33_142 : decode prog_3_method_7_code 142 = .ok (.iload_n 2, 1) := by decide +kernel
theorem d33_143 : decode prog_3_method_7_code 143 = .ok (.invokevirtual 107, 3) := by decide +kernel
theorem d33_146 : decode prog_3_method_7_code 146 = .ok (.ireturn, 1) := by decide +kernel
theorem d33_147 : decode prog_3_method_7_code 147 = .ok (.aload_n 0, 1) := by decide +kernel
theorem d33_148 : decode prog_3_method_7_code 148 = .ok (.aload_n 1, 1) := by decide +kernel
theorem d33_149 : decode prog_3_method_7_code 149 = .ok (.iload_n 2, 1) := by decide +kernel
theorem d33_150 : decode prog_3_method_7_code 150 = .ok (.invokevirtual 110, 3) := by decide +kernel
theorem d33_153 : decode prog_3_method_7_code 153 = .ok (.ireturn, 1) := by decide +kernel
theorem d33_154 : decode prog_3_method_7_code 154 = .ok (.aload_n 0, 1) := by decide +kernel
theorem d33_155 : decode prog_3_method_7_code 155 = .ok (.aload_n 1, 1) := by decide +kernel
theorem d33_156 : decode prog_3_method_7_code 156 = .ok (.iload_n 2, 1) := by decide +kernel
theorem d33_157 : decode prog_3_method_7_code 157 = .ok (.invokevirtual 113, 3) := by decide +kernel
theorem d33_160 : decode prog_3_method_7_code 160 = .ok (.ireturn, 1) := by decide +kernel
theorem d34_0 : decode prog_3_method_8_code 0 = .ok (.aload_n 0, 1) := by decide +kernel
theorem d34_1 : decode prog_3_method_8_code 1 = .ok (.getfield 9, 3) := by decide +kernel
theorem d34_4 : decode prog_3_method_8_code 4 = .ok (.getfield 91, 3) := by decide +kernel
theorem d34_7 : decode prog_3_method_8_code 7 = .ok (.iload_n 2, 1) := by decide +kernel
theorem d34_8 : decode prog_3_method_8_code 8 = .ok (.iaload, 1) := by decide +kernel
theorem d34_9 : decode prog_3_method_8_code 9 = .ok (.istore_n 3, 1) := by decide +kernel
theorem d34_10 : decode prog_3_method_8_code 10 = .ok (.aload_n 1, 1) := by decide +kernel
theorem d34_11 : decode prog_3_method_8_code 11 = .ok (.getfield 116, 3) := by decide +kernel
theorem d34_14 : decode prog_3_method_8_code 14 = .ok (.iload_n 3, 1) := by decide +kernel
theorem d34_15 : decode prog_3_method_8_code 15 = .ok (.iaload, 1) := by decide +kernel
theorem d34_16 : decode prog_3_method_8_code 16 = .ok (.istore 4, 2) := by decide +kernel
theorem d34_18 : decode prog_3_method_8_code 18 = .ok (.iload 4, 2) := by decide +kernel
theorem d34_20 : decode prog_3_method_8_code 20 = .ok (.sipush 400, 3) := by decide +kernel
theorem d34_23 : decode prog_3_method_8_code 23 = .ok (.if_icmp .ne 15, 3) := by decide +kernel
theorem d34_26 : decode prog_3_method_8_code 26 = .ok (.aload_n 0, 1) := by decide +kernel
theorem d34_27 : decode prog_3_method_8_code 27 = .ok (.aload_n 1, 1) := by decide +kernel
theorem d34_28 : decode prog_3_method_8_code 28 = .ok (.getfield 46, 3) := by decide +kernel
theorem d34_31 : decode prog_3_method_8_code 31 = .ok (.iload_n 2, 1) := by decide +kernel
theorem d34_32 : decode prog_3_method_8_code 32 = .ok (.bipush (-2), 2) := by decide +kernel
theorem d34_34 : decode prog_3_method_8_code 34 = .ok (.invokevirtual 36, 3) := by decide +kernel
theorem d34_37 : decode prog_3_method_8_code 37 = .ok (.ireturn, 1) := by decide +kernel
theorem d34_38 : decode prog_3_method_8_code 38 = .ok (.iload 4, 2) := by decide +kernel
theorem d34_40 : decode prog_3_method_8_code 40 = .ok (.sipush 300, 3) := by decide +kernel
theorem d34_43 : decode prog_3_method_8_code 43 = .ok (.if_icmp .ne 19, 3) := by decide +kernel
theorem d34_46 : decode prog_3_method_8_code 46 = .ok (.aload_n 1, 1) := by decide +kernel
theorem d34_47 : decode prog_3_method_8_code 47 = .ok (.iload_n 2, 1) := by decide +kernel
theorem d34_48 : decode prog_3_method_8_code 48 = .ok (.iload 4, 2) := by decide +kernel
theorem d34_50 : decode prog_3_method_8_code 50 = .ok (.aload_n 1, 1) := by decide +kernel
theorem d34_51 : decode prog_3_method_8_code 51 = .ok (.getfield 119, 3) := by decide +kernel
theorem d34_54 : decode prog_3_method_8_code 54 = .ok (.iload_n 3, 1) := by decide +kernel
theorem d34_55 : decode prog_3_method_8_code 55 = .ok (.laload, 1) := by decide +kernel
theorem d34_56 : decode prog_3_method_8_code 56 = .ok (.invokevirtual 94, 3) := by decide +kernel
theorem d34_59 : decode prog_3_method_8_code 59 = .ok (.goto 10, 3) := by decide +kernel
theorem d34_62 : decode prog_3_method_8_code 62 = .ok (.aload_n 1, 1) := by decide +kernel
theorem d34_63 : decode prog_3_method_8_code 63 = .ok (.iload_n 2, 1) := by decide +kernel
theorem d34_64 : decode prog_3_method_8_code 64 = .ok (.iload 4, 2) := by decide +kernel
theorem d34_66 : decode prog_3_method_8_code 66 = .ok (.invokevirtual 122, 3) := by decide +kernel
theorem d34_69 : decode prog_3_method_8_code 69 = .ok (.ireturn, 1) := by decide +kernel
theorem d35_0 : decode prog_3_method_9_code 0 = .ok (.aload_n 0, 1) := by decide +kernel
theorem d35_1 : decode prog_3_method_9_code 1 = .ok (.getfield 9, 3) := by decide +kernel
theorem d35_4 : decode prog_3_method_9_code 4 = .ok (.getfield 88, 3) := by decide +kernel
theorem d35_7 : decode prog_3_method_9_code 7 = .ok (.iload_n 2, 1) := by decide +kernel
theorem d35_8 : decode prog_3_method_9_code 8 = .ok (.iaload, 1) := by decide +kernel
theorem d35_9 : decode prog_3_method_9_code 9 = .ok (.istore_n 3, 1) := by decide +kernel
theorem d35_10 : decode prog_3_method_9_code 10 = .ok (.aload_n 0, 1) := by decide +kernel
theorem d35_11 : decode prog_3_method_9_code 11 = .ok (.getfield 9, 3) := by decide +kernel
theorem d35_14 : decode prog_3_method_9_code 14 = .ok (.getfield 91, 3) := by decide +kernel
theorem d35_17 : decode prog_3_method_9_code 17 = .ok (.iload_n 2, 1) := by decide +kernel
theorem d35_18 : decode prog_3_method_9_code 18 = .ok (.iaload, 1) := by decide +kernel
theorem d35_19 : decode prog_3_method_9_code 19 = .ok (.istore 4, 2) := by decide +kernel
theorem d35_21 : decode prog_3_method_9_code 21 = .ok (.aload_n 0, 1) := by decide +kernel
theorem d35_22 : decode prog_3_method_9_code 22 = .ok (.getfield 9, 3) := by decide +kernel
theorem d35_25 : decode prog_3_method_9_code 25 = .ok (.getfield 126, 3) := by decide +kernel
theorem d35_28 : decode prog_3_method_9_code 28 = .ok (.iload_n 2, 1) := by decide +kernel
theorem d35_29 : decode prog_3_method_9_code 29 = .ok (.iaload, 1) := by decide +kernel
theorem d35_30 : decode prog_3_method_9_code 30 = .ok (.istore 5, 2) := by decide +kernel
theorem d35_32 : decode prog_3_method_9_code 32 = .ok (.aload_n 0, 1) := by decide +kernel
theorem d35_33 : decode prog_3_method_9_code 33 = .ok (.aload_n 1, 1) := by decide +kernel
theorem d35_34 : decode prog_3_method_9_code 34 = .ok (.iload 4, 2) := by decide +kernel
theorem d35_36 : decode prog_3_method_9_code 36 = .ok (.invokevirtual 49, 3) := by decide +kernel
theorem d35_39 : decode prog_3_method_9_code 39 = .ok (.ifCond .eq 26, 3) := by decide +kernel
theorem d35_42 : decode prog_3_method_9_code 42 = .ok (.aload_n 0, 1) := by decide +kernel
theorem d35_43 : decode prog_3_method_9_code 43 = .ok (.aload_n 1, 1) := by decide +kernel
theorem d35_44 : decode prog_3_method_9_code 44 = .ok (.iload 5, 2) := by decide +kernel
theorem d35_46 : decode prog_3_method_9_code 46 = .ok (.invokevirtual 49, 3) := by decide +kernel
theorem d35_49 : decode prog_3_method_9_code 49 = .ok (.ifCond .eq 16, 3) := by decide +kernel
theorem d35_52 : decode prog_3_method_9_code 52 = .ok (.aload_n 0, 1) := by decide +kernel
theorem d35_53 : decode prog_3_method_9_code 53 = .ok (.aload_n 1, 1) := by decide +kernel
theorem d35_54 : decode prog_3_method_9_code 54 = .ok (.iload_n 2, 1) := by decide +kernel
theorem d35_55 : decode prog_3_method_9_code 55 = .ok (.iload 4, 2) := by decide +kernel
theorem d35_57 : decode prog_3_method_9_code 57 = .ok (.iload 5, 2) := by decide +kernel
theorem d35_59 : decode prog_3_method_9_code 59 = .ok (.invokevirtual 129, 3) := by decide +kernel
theorem d35_62 : decode prog_3_method_9_code 62 = .ok (.ifCond .ne 5, 3) := by decide +kernel
theorem d35_65 : decode prog_3_method_9_code 65 = .ok (.iconst 0, 1) := by decide +kernel
theorem d35_66 : decode prog_3_method_9_code 66 = .ok (.ireturn, 1) := by decide +kernel
theorem d35_67 : decode prog_3_method_9_code 67 = .ok (.aload_n 0, 1) := by decide +kernel
theorem d35_68 : decode prog_3_method_9_code 68 = .ok (.aload_n 1, 1) := by decide +kernel
theorem d35_69 : decode prog_3_method_9_code 69 = .ok (.iload 4, 2) := by decide +kernel
theorem d35_71 : decode prog_3_method_9_code 71 = .ok (.iload 5, 2) := by decide +kernel
theorem d35_73 : decode prog_3_method_9_code 73 = .ok (.invokevirtual 132, 3) := by decide +kernel
theorem d35_76 : decode prog_3_method_9_code 76 = .ok (.istore 6, 2) := by decide +kernel
theorem d35_78 : decode prog_3_method_9_code 78 = .ok (.iload 6, 2) := by decide +kernel
theorem d35_80 : decode prog_3_method_9_code 80 = .ok (.ifCond .ne 9, 3) := by decide +kernel
theorem d35_83 : decode prog_3_method_9_code 83 = .ok (.iload_n 3, 1) := by decide +kernel
theorem d35_84 : decode prog_3_method_9_code 84 = .ok (.bipush 12, 2) := by decide +kernel
theorem d35_86 : decode prog_3_method_9_code 86 = .ok (.if_icmp .ne 18, 3) := by decide +kernel
theorem d35_89 : decode prog_3_method_9_code 89 = .ok (.iload 6, 2) := by decide +kernel
theorem d35_91 : decode prog_3_method_9_code 91 = .ok (.sipush 300, 3) := by decide +kernel
theorem d35_94 : decode prog_3_method_9_code 94 = .ok (.if_icmp .ne 22, 3) := by decide +kernel
theorem d35_97 : decode prog_3_method_9_code 97 = .ok (.iload_n 3, 1) := by decide +kernel
theorem d35_98 : decode prog_3_method_9_code 98 = .ok (.invokestatic 138, 3) := by decide +kernel
theorem d35_101 : decode prog_3_method_9_code 101 = .ok (.ifCond .eq 15, 3) := by decide +kernel
theorem d35_104 : decode prog_3_method_9_code 104 = .ok (.aload_n 0, 1) := by decide +kernel
theorem d35_105 : decode prog_3_method_9_code 105 = .ok (.aload_n 1, 1) := by decide +kernel
theorem d35_106 : decode prog_3_method_9_code 106 = .ok (.getfield 46, 3) := by decide +kernel
theorem d35_109 : decode prog_3_method_9_code 109 = .ok (.iload_n 2, 1) := by decide +kernel
theorem d35_110 : decode prog_3_method_9_code 110 = .ok (.bipush (-2), 2) := by decide +kernel
theorem d35_112 : decode prog_3_method_9_code 112 = .ok (.invokevirtual 36, 3) := by decide +kernel
theorem d35_115 : decode prog_3_method_9_code 115 = .ok (.ireturn, 1) := by decide +kernel
theorem d35_116 : decode prog_3_method_9_code 116 = .ok (.iload_n 3, 1) := by decide +kernel
theorem d35_117 : decode prog_3_method_9_code 117 = .ok (.invokestatic 141, 3) := by decide +kernel
theorem d35_120 : decode prog_3_method_9_code 120 = .ok (.ifCond .eq 7, 3) := by decide +kernel
theorem d35_123 : decode prog_3_method_9_code 123 = .ok (.iconst 0, 1) := by decide +kernel
theorem d35_124 : decode prog_3_method_9_code 124 = .ok (.goto 5, 3) := by decide +kernel
theorem d35_127 : decode prog_3_method_9_code 127 = .ok (.iload 6, 2) := by decide +kernel
theorem d35_129 : decode prog_3_method_9_code 129 = .ok (.istore 7, 2) := by decide +kernel
theorem d35_131 : decode prog_3_method_9_code 131 = .ok (.aload_n 1, 1) := by decide +kernel
theorem d35_132 : decode prog_3_method_9_code 132 = .ok (.getfield 144, 3) := by decide +kernel
theorem d35_135 : decode prog_3_method_9_code 135 = .ok (.iload 4, 2) := by decide +kernel
theorem d35_137 : decode prog_3_method_9_code 137 = .ok (.baload, 1) := by decide +kernel
theorem d35_138 : decode prog_3_method_9_code 138 = .ok (.ifCond .eq 13, 3) := by decide +kernel
theorem d35_141 : decode prog_3_method_9_code 141 = .ok (.aload_n 1, 1) := by decide +kernel
theorem d35_142 : decode prog_3_method_9_code 142 = .ok (.getfield 144, 3) := by decide +kernel
theorem d35_145 : decode prog_3_method_9_code 145 = .ok (.iload 5, 2) := by decide +kernel
theorem d35_147 : decode prog_3_method_9_code 147 = .ok (.baload, 1) := by decide +kernel
theorem d35_148 : decode prog_3_method_9_code 148 = .ok (.ifCond .ne 11, 3) := by decide +kernel
theorem d35_151 : decode prog_3_method_9_code 151 = .ok (.aload_n 1, 1) := by decide +kernel
theorem d35_152 : decode prog_3_method_9_code 152 = .ok (.iload_n 2, 1) := by decide +kernel
theorem d35_153 : decode prog_3_method_9_code 153 = .ok (.iload 7, 2) := by decide +kernel
theorem d35_155 : decode prog_3_method_9_code 155 = .ok (.invokevirtual 122, 3) := by decide +kernel
theorem d35_158 : decode prog_3_method_9_code 158 = .ok (.ireturn, 1) := by decide +kernel
theorem d35_159 : decode prog_3_method_9_code 159 = .ok (.iload_n 3, 1) := by decide +kernel
theorem d35_160 : decode prog_3_method_9_code 160 = .ok (.iload 6, 2) := by decide +kernel
theorem d35_162 : decode prog_3_method_9_code 162 = .ok (.aload_n 1, 1) := by decide +kernel
theorem d35_163 : decode prog_3_method_9_code 163 = .ok (.getfield 77, 3) := by decide +kernel
theorem d35_166 : decode prog_3_method_9_code 166 = .ok (.iload 4, 2) := by decide +kernel
theorem d35_168 : decode prog_3_method_9_code 168 = .ok (.laload, 1) := by decide +kernel
theorem d35_169 : decode prog_3_method_9_code 169 = .ok (.aload_n 1, 1) := by decide +kernel
theorem d35_170 : decode prog_3_method_9_code 170 = .ok (.getfield 77, 3) := by decide +kernel
theorem d35_173 : decode prog_3_method_9_code 173 = .ok (.iload 5, 2) := by decide +kernel
theorem d35_175 : decode prog_3_method_9_code 175 = .ok (.laload, 1) := by decide +kernel
theorem d35_176 : decode prog_3_method_9_code 176 = .ok (.invokestatic 148, 3) := by decide +kernel
theorem d35_179 : decode prog_3_method_9_code 179 = .ok (.lstore 8, 2) := by decide +kernel
theorem d35_181 : decode prog_3_method_9_code 181 = .ok (.lload 8, 2) := by decide +kernel
theorem d35_183 : decode prog_3_method_9_code 183 = .ok (.invokestatic 154, 3) := by decide +kernel
theorem d35_186 : decode prog_3_method_9_code 186 = .ok (.ifCond .eq 29, 3) := by decide +kernel
theorem d35_189 : decode prog_3_method_9_code 189 = .ok (.aload_n 0, 1) := by decide +kernel
theorem d35_190 : decode prog_3_method_9_code 190 = .ok (.aload_n 1, 1) := by decide +kernel
theorem d35_191 : decode prog_3_method_9_code 191 = .ok (.getfield 46, 3) := by decide +kernel
theorem d35_194 : decode prog_3_method_9_code 194 = .ok (.iload_n 2, 1) := by decide +kernel
theorem d35_195 : decode prog_3_method_9_code 195 = .ok (.lload 8, 2) := by decide +kernel
theorem d35_197 : decode prog_3_method_9_code 197 = .ok (.ldc2_w 158, 3) := by decide +kernel
theorem d35_200 : decode prog_3_method_9_code 200 = .ok (.lcmp, 1) := by decide +kernel
theorem d35_201 : decode prog_3_method_9_code 201 = .ok (.ifCond .ne 8, 3) := by decide +kernel
theorem d35_204 : decode prog_3_method_9_code 204 = .ok (.bipush (-5), 2) := by decide +kernel
theorem d35_206 : decode prog_3_method_9_code 206 = .ok (.goto 5, 3) := by decide +kernel
theorem d35_209 : decode prog_3_method_9_code 209 = .ok (.bipush (-3), 2) := by decide +kernel
theorem d35_211 : decode prog_3_method_9_code 211 = .ok (.invokevirtual 36, 3) := by decide +kernel
theorem d35_214 : decode prog_3_method_9_code 214 = .ok (.ireturn, 1) := by decide +kernel
theorem d35_215 : decode prog_3_method_9_code 215 = .ok (.aload_n 1, 1) := by decide +kernel
theorem d35_216 : decode prog_3_method_9_code 216 = .ok (.iload_n 2, 1) := by decide +kernel
theorem d35_217 : decode prog_3_method_9_code 217 = .ok (.iload 7, 2) := by decide +kernel
theorem d35_219 : decode prog_3_method_9_code 219 = .ok (.lload 8, 2) := by decide +kernel
theorem d35_221 : decode prog_3_method_9_code 221 = .ok (.invokevirtual 94, 3) := by decide +kernel
theorem d35_224 : decode prog_3_method_9_code 224 = .ok (.ireturn, 1) := by decide +kernel
theorem d36_0 : decode prog_3_method_10_code 0 = .ok (.aload_n 1, 1) := by decide +kernel
theorem d36_1 : decode prog_3_method_10_code 1 = .ok (.getfield 68, 3) := by decide +kernel
theorem d36_4 : decode prog_3_method_10_code 4 = .ok (.iload_n 3, 1) := by decide +kernel
theorem d36_5 : decode prog_3_method_10_code 5 = .ok (.iaload, 1) := by decide +kernel
theorem d36_6 : decode prog_3_method_10_code 6 = .ok (.sipush 300, 3) := by decide +kernel
theorem d36_9 : decode prog_3_method_10_code 9 = .ok (.if_icmp .ne 20, 3) := by decide +kernel
theorem d36_12 : decode prog_3_method_10_code 12 = .ok (.aload_n 0, 1) := by decide +kernel
theorem d36_13 : decode prog_3_method_10_code 13 = .ok (.aload_n 1, 1) := by decide +kernel
theorem d36_14 : decode prog_3_method_10_code 14 = .ok (.iload_n 2, 1) := by decide +kernel
theorem d36_15 : decode prog_3_method_10_code 15 = .ok (.iload_n 3, 1) := by decide +kernel
theorem d36_16 : decode prog_3_method_10_code 16 = .ok (.aload_n 1, 1) := by decide +kernel
theorem d36_17 : decode prog_3_method_10_code 17 = .ok (.getfield 68, 3) := by decide +kernel
theorem d36_20 : decode prog_3_method_10_code 20 = .ok (.iload 4, 2) := by decide +kernel
theorem d36_22 : decode prog_3_method_10_code 22 = .ok (.iaload, 1) := by decide +kernel
theorem d36_23 : decode prog_3_method_10_code 23 = .ok (.invokevirtual 56, 3) := by decide +kernel
theorem d36_26 : decode prog_3_method_10_code 26 = .ok (.goto 17, 3) := by decide +kernel
theorem d36_29 : decode prog_3_method_10_code 29 = .ok (.aload_n 0, 1) := by decide +kernel
theorem d36_30 : decode prog_3_method_10_code 30 = .ok (.aload_n 1, 1) := by decide +kernel
theorem d36_31 : decode prog_3_method_10_code 31 = .ok (.iload_n 2, 1) := by decide +kernel
theorem d36_32 : decode prog_3_method_10_code 32 = .ok (.iload 4, 2) := by decide +kernel
theorem d36_34 : decode prog_3_method_10_code 34 = .ok (.aload_n 1, 1) := by decide +kernel
theorem d36_35 : decode prog_3_method_10_code 35 = .ok (.getfield 68, 3) := by decide +kernel
theorem d36_38 : decode prog_3_method_10_code 38 = .ok (.iload_n 3, 1) := by decide +kernel
theorem d36_39 : decode prog_3_method_10_code 39 = .ok (.iaload, 1) := by decide +kernel
theorem d36_40 : decode prog_3_method_10_code 40 = .ok (.invokevirtual 56, 3) := by decide +kernel
theorem d36_43 : decode prog_3_method_10_code 43 = .ok (.ireturn, 1) := by decide +kernel
theorem d37_0 : decode prog_3_method_11_code 0 = .ok (.aload_n 1, 1) := by decide +kernel
theorem d37_1 : decode prog_3_method_11_code 1 = .ok (.getfield 68, 3) := by decide +kernel
theorem d37_4 : decode prog_3_method_11_code 4 = .ok (.iload_n 2, 1) := by decide +kernel
theorem d37_5 : decode prog_3_method_11_code 5 = .ok (.iaload, 1) := by decide +kernel
theorem d37_6 : decode prog_3_method_11_code 6 = .ok (.sipush 300, 3) := by decide +kernel
theorem d37_9 : decode prog_3_method_11_code 9 = .ok (.if_icmp .ne 12, 3) := by decide +kernel
theorem d37_12 : decode prog_3_method_11_code 12 = .ok (.aload_n 1, 1) := by decide +kernel
theorem d37_13 : decode prog_3_method_11_code 13 = .ok (.getfield 68, 3) := by decide +kernel
theorem d37_16 : decode prog_3_method_11_code 16 = .ok (.iload_n 3, 1) := by decide +kernel
theorem d37_17 : decode prog_3_method_11_code 17 = .ok (.iaload, 1) := by decide +kernel
theorem d37_18 : decode prog_3_method_11_code 18 = .ok (.goto 9, 3) := by decide +kernel
theorem d37_21 : decode prog_3_method_11_code 21 = .ok (.aload_n 1, 1) := by decide +kernel
theorem d37_22 : decode prog_3_method_11_code 22 = .ok (.getfield 68, 3) := by decide +kernel
theorem d37_25 : decode prog_3_method_11_code 25 = .ok (.iload_n 2, 1) := by decide +kernel
theorem d37_26 : decode prog_3_method_11_code 26 = .ok (.iaload, 1) := by decide +kernel
theorem d37_27 : decode prog_3_method_11_code 27 = .ok (.ireturn, 1) := by decide +kernel
theorem d38_0 : decode prog_3_method_12_code 0 = .ok (.aload_n 0, 1) := by decide +kernel
theorem d38_1 : decode prog_3_method_12_code 1 = .ok (.getfield 9, 3) := by decide +kernel
theorem d38_4 : decode prog_3_method_12_code 4 = .ok (.getfield 91, 3) := by decide +kernel
theorem d38_7 : decode prog_3_method_12_code 7 = .ok (.iload_n 2, 1) := by decide +kernel
theorem d38_8 : decode prog_3_method_12_code 8 = .ok (.iaload, 1) := by decide +kernel
theorem d38_9 : decode prog_3_method_12_code 9 = .ok (.istore_n 3, 1) := by decide +kernel
theorem d38_10 : decode prog_3_method_12_code 10 = .ok (.aload_n 0, 1) := by decide +kernel
theorem d38_11 : decode prog_3_method_12_code 11 = .ok (.getfield 9, 3) := by decide +kernel
theorem d38_14 : decode prog_3_method_12_code 14 = .ok (.getfield 126, 3) := by decide +kernel
theorem d38_17 : decode prog_3_method_12_code 17 = .ok (.iload_n 2, 1) := by decide +kernel
theorem d38_18 : decode prog_3_method_12_code 18 = .ok (.iaload, 1) := by decide +kernel
theorem d38_19 : decode prog_3_method_12_code 19 = .ok (.istore 4, 2) := by decide +kernel
theorem d38_21 : decode prog_3_method_12_code 21 = .ok (.aload_n 0, 1) := by decide +kernel
theorem d38_22 : decode prog_3_method_12_code 22 = .ok (.getfield 9, 3) := by decide +kernel
theorem d38_25 : decode prog_3_method_12_code 25 = .ok (.getfield 160, 3) := by decide +kernel
theorem d38_28 : decode prog_3_method_12_code 28 = .ok (.iload_n 2, 1) := by decide +kernel
theorem d38_29 : decode prog_3_method_12_code 29 = .ok (.iaload, 1) := by decide +kernel
theorem d38_30 : decode prog_3_method_12_code 30 = .ok (.istore 5, 2) := by decide +kernel
theorem d38_32 : decode prog_3_method_12_code 32 = .ok (.aload_n 0, 1) := by decide +kernel
theorem d38_33 : decode prog_3_method_12_code 33 = .ok (.aload_n 1, 1) := by decide +kernel
theorem d38_34 : decode prog_3_method_12_code 34 = .ok (.iload_n 3, 1) := by decide +kernel
theorem d38_35 : decode prog_3_method_12_code 35 = .ok (.invokevirtual 49, 3) := by decide +kernel
theorem d38_38 : decode prog_3_method_12_code 38 = .ok (.ifCond .ne 5, 3) := by decide +kernel
theorem d38_41 : decode prog_3_method_12_code 41 = .ok (.iconst 0, 1) := by decide +kernel
theorem d38_42 : decode prog_3_method_12_code 42 = .ok (.ireturn, 1) := by decide +kernel
theorem d38_43 : decode prog_3_method_12_code 43 = .ok (.aload_n 1, 1) := by decide +kernel
theorem d38_44 : decode prog_3_method_12_code 44 = .ok (.getfield 68, 3) := by decide +kernel
theorem d38_47 : decode prog_3_method_12_code 47 = .ok (.iload_n 3, 1) := by decide +kernel
theorem d38_48 : decode prog_3_method_12_code 48 = .ok (.iaload, 1) := by decide +kernel
theorem d38_49 : decode prog_3_method_12_code 49 = .ok (.ifCond .eq 15, 3) := by decide +kernel
theorem d38_52 : decode prog_3_method_12_code 52 = .ok (.aload_n 0, 1) := by decide +kernel
theorem d38_53 : decode prog_3_method_12_code 53 = .ok (.aload_n 1, 1) := by decide +kernel
theorem d38_54 : decode prog_3_method_12_code 54 = .ok (.getfield 46, 3) := by decide +kernel
theorem d38_57 : decode prog_3_method_12_code 57 = .ok (.iload_n 2, 1) := by decide +kernel
theorem d38_58 : decode prog_3_method_12_code 58 = .ok (.bipush (-2), 2) := by decide +kernel
theorem d38_60 : decode prog_3_method_12_code 60 = .ok (.invokevirtual 36, 3) := by decide +kernel
theorem d38_63 : decode prog_3_method_12_code 63 = .ok (.ireturn, 1) := by decide +kernel
theorem d38_64 : decode prog_3_method_12_code 64 = .ok (.aload_n 1, 1) := by decide +kernel
theorem d38_65 : decode prog_3_method_12_code 65 = .ok (.getfield 144, 3) := by decide +kernel
theorem d38_68 : decode prog_3_method_12_code 68 = .ok (.iload_n 3, 1) := by decide +kernel
theorem d38_69 : decode prog_3_method_12_code 69 = .ok (.baload, 1) := by decide +kernel
theorem d38_70 : decode prog_3_method_12_code 70 = .ok (.ifCond .eq 49, 3) := by decide +kernel
theorem d38_73 : decode prog_3_method_12_code 73 = .ok (.aload_n 1, 1) := by decide +kernel
theorem d38_74 : decode prog_3_method_12_code 74 = .ok (.getfield 77, 3) := by decide +kernel
theorem d38_77 : decode prog_3_method_12_code 77 = .ok (.iload_n 3, 1) := by decide +kernel
theorem d38_78 : decode prog_3_method_12_code 78 = .ok (.laload, 1) := by decide +kernel
theorem d38_79 : decode prog_3_method_12_code 79 = .ok (.lconst 0, 1) := by decide +kernel
theorem d38_80 : decode prog_3_method_12_code 80 = .ok (.lcmp, 1) := by decide +kernel
theorem d38_81 : decode prog_3_method_12_code 81 = .ok (.ifCond .eq 8, 3) := by decide +kernel
theorem d38_84 : decode prog_3_method_12_code 84 = .ok (.iload 4, 2) := by decide +kernel
theorem d38_86 : decode prog_3_method_12_code 86 = .ok (.goto 5, 3) := by decide +kernel
theorem d38_89 : decode prog_3_method_12_code 89 = .ok (.iload 5, 2) := by decide +kernel
theorem d38_91 : decode prog_3_method_12_code 91 = .ok (.istore 6, 2) := by decide +kernel
theorem d38_93 : decode prog_3_method_12_code 93 = .ok (.aload_n 0, 1) := by decide +kernel
theorem d38_94 : decode prog_3_method_12_code 94 = .ok (.aload_n 1, 1) := by decide +kernel
theorem d38_95 : decode prog_3_method_12_code 95 = .ok (.iload 6, 2) := by decide +kernel
theorem d38_97 : decode prog_3_method_12_code 97 = .ok (.invokevirtual 49, 3) := by decide +kernel
theorem d38_100 : decode prog_3_method_12_code 100 = .ok (.ifCond .eq 17, 3) := by decide +kernel
theorem d38_103 : decode prog_3_method_12_code 103 = .ok (.aload_n 1, 1) := by decide +kernel
theorem d38_104 : decode prog_3_method_12_code 104 = .ok (.iload_n 2, 1) := by decide +kernel
theorem d38_105 : decode prog_3_method_12_code 105 = .ok (.iload 6, 2) := by decide +kernel
theorem d38_107 : decode prog_3_method_12_code 107 = .ok (.invokevirtual 163, 3) := by decide +kernel
theorem d38_110 : decode prog_3_method_12_code 110 = .ok (.ifCond .eq 7, 3) := by decide +kernel
theorem d38_113 : decode prog_3_method_12_code 113 = .ok (.iconst 1, 1) := by decide +kernel
theorem d38_114 : decode prog_3_method_12_code 114 = .ok (.goto 4, 3) := by decide +kernel
theorem d38_117 : decode prog_3_method_12_code 117 = .ok (.iconst 0, 1) := by decide +kernel
theorem d38_118 : decode prog_3_method_12_code 118 = .ok (.ireturn, 1) := by decide +kernel
theorem d38_119 : decode prog_3_method_12_code 119 = .ok (.aload_n 0, 1) := by decide +kernel
theorem d38_120 : decode prog_3_method_12_code 120 = .ok (.aload_n 1, 1) := by decide +kernel
theorem d38_121 : decode prog_3_method_12_code 121 = .ok (.iload 4, 2) := by decide +kernel
theorem d38_123 : decode prog_3_method_12_code 123 = .ok (.invokevirtual 49, 3) := by decide +kernel
theorem d38_126 : decode prog_3_method_12_code 126 = .ok (.ifCond .eq 26, 3) := by decide +kernel
theorem d38_129 : decode prog_3_method_12_code 129 = .ok (.aload_n 0, 1) := by decide +kernel
theorem d38_130 : decode prog_3_method_12_code 130 = .ok (.aload_n 1, 1) := by decide +kernel
theorem d38_131 : decode prog_3_method_12_code 131 = .ok (.iload 5, 2) := by decide +kernel
theorem d38_133 : decode prog_3_method_12_code 133 = .ok (.invokevirtual 49, 3) := by decide +kernel
theorem d38_136 : decode prog_3_method_12_code 136 = .ok (.ifCond .eq 16, 3) := by decide +kernel
theorem d38_139 : decode prog_3_method_12_code 139 = .ok (.aload_n 0, 1) := by decide +kernel
theorem d38_140 : decode prog_3_method_12_code 140 = .ok (.aload_n 1, 1) := by decide +kernel
theorem d38_141 : decode prog_3_method_12_code 141 = .ok (.iload_n 2, 1) := by decide +kernel
theorem d38_142 : decode prog_3_method_12_code 142 = .ok (.iload 4, 2) := by decide +kernel
theorem d38_144 : decode prog_3_method_12_code 144 = .ok (.iload 5, 2) := by decide +kernel
theorem d38_146 : decode prog_3_method_12_code 146 = .ok (.invokevirtual 129, 3) := by decide +kernel
theorem d38_149 : decode prog_3_method_12_code 149 = .ok (.ifCond .ne 5, 3) := by decide +kernel
theorem d38_152 : decode prog_3_method_12_code 152 = .ok (.iconst 0, 1) := by decide +kernel
theorem d38_153 : decode prog_3_method_12_code 153 = .ok (.ireturn, 1) := by decide +kernel
theorem d38_154 : decode prog_3_method_12_code 154 = .ok (.aload_n 0, 1) := by decide +kernel
theorem d38_155 : decode prog_3_method_12_code 155 = .ok (.aload_n 1, 1) := by decide +kernel
theorem d38_156 : decode prog_3_method_12_code 156 = .ok (.iload 4, 2) := by decide +kernel
theorem d38_158 : decode prog_3_method_12_code 158 = .ok (.iload 5, 2) := by decide +kernel
theorem d38_160 : decode prog_3_method_12_code 160 = .ok (.invokevirtual 132, 3) := by decide +kernel
theorem d38_163 : decode prog_3_method_12_code 163 = .ok (.istore 6, 2) := by decide +kernel
theorem d38_165 : decode prog_3_method_12_code 165 = .ok (.iload 6, 2) := by decide +kernel
theorem d38_167 : decode prog_3_method_12_code 167 = .ok (.sipush 300, 3) := by decide +kernel
theorem d38_170 : decode prog_3_method_12_code 170 = .ok (.if_icmp .ne 17, 3) := by decide +kernel
theorem d38_173 : decode prog_3_method_12_code 173 = .ok (.aload_n 0, 1) := by decide +kernel
theorem d38_174 : decode prog_3_method_12_code 174 = .ok (.aload_n 1, 1) := by decide +kernel
theorem d38_175 : decode prog_3_method_12_code 175 = .ok (.getfield 46, 3) := by decide +kernel
theorem d38_178 : decode prog_3_method_12_code 178 = .ok (.iload_n 2, 1) := by decide +kernel
theorem d38_179 : decode prog_3_method_12_code 179 = .ok (.bipush (-2), 2) := by decide +kernel
theorem d38_181 : decode prog_3_method_12_code 181 = .ok (.invokevirtual 36, 3) := by decide +kernel
theorem d38_184 : decode prog_3_method_12_code 184 = .ok (.goto 10, 3) := by decide +kernel
theorem d38_187 : decode prog_3_method_12_code 187 = .ok (.aload_n 1, 1) := by decide +kernel
theorem d38_188 : decode prog_3_method_12_code 188 = .ok (.iload_n 2, 1) := by decide +kernel
theorem d38_189 : decode prog_3_method_12_code 189 = .ok (.iload 6, 2) := by decide +kernel
theorem d38_191 : decode prog_3_method_12_code 191 = .ok (.invokevirtual 122, 3) := by decide +kernel
theorem d38_194 : decode prog_3_method_12_code 194 = .ok (.ireturn, 1) := by decide +kernel
theorem d39_0 : decode prog_3_method_13_code 0 = .ok (.aload_n 0, 1) := by decide +kernel
theorem d39_1 : decode prog_3_method_13_code 1 = .ok (.getfield 9, 3) := by decide +kernel
theorem d39_4 : decode prog_3_method_13_code 4 = .ok (.getfield 91, 3) := by decide +kernel
theorem d39_7 : decode prog_3_method_13_code 7 = .ok (.iload_n 2, 1) := by decide +kernel
theorem d39_8 : decode prog_3_method_13_code 8 = .ok (.iaload, 1) := by decide +kernel
theorem d39_9 : decode prog_3_method_13_code 9 = .ok (.istore_n 3, 1) := by decide +kernel
theorem d39_10 : decode prog_3_method_13_code 10 = .ok (.aload_n 0, 1) := by decide +kernel
theorem d39_11 : decode prog_3_method_13_code 11 = .ok (.aload_n 1, 1) := by decide +kernel
theorem d39_12 : decode prog_3_method_13_code 12 = .ok (.iload_n 3, 1) := by decide +kernel
theorem d39_13 : decode prog_3_method_13_code 13 = .ok (.invokevirtual 49, 3) := by decide +kernel
theorem d39_16 : decode prog_3_method_13_code 16 = .ok (.ifCond .ne 5, 3) := by decide +kernel
theorem d39_19 : decode prog_3_method_13_code 19 = .ok (.iconst 0, 1) := by decide +kernel
theorem d39_20 : decode prog_3_method_13_code 20 = .ok (.ireturn, 1) := by decide +kernel
theorem d39_21 : decode prog_3_method_13_code 21 = .ok (.aload_n 1, 1) := by decide +kernel
theorem d39_22 : decode prog_3_method_13_code 22 = .ok (.getfield 68, 3) := by decide +kernel
theorem d39_25 : decode prog_3_method_13_code 25 = .ok (.iload_n 3, 1) := by decide +kernel
theorem d39_26 : decode prog_3_method_13_code 26 = .ok (.iaload, 1) := by decide +kernel
theorem d39_27 : decode prog_3_method_13_code 27 = .ok (.ifCond .ne 15, 3) := by decide +kernel
theorem d39_30 : decode prog_3_method_13_code 30 = .ok (.aload_n 0, 1) := by decide +kernel
theorem d39_31 : decode prog_3_method_13_code 31 = .ok (.aload_n 1, 1) := by decide +kernel
theorem d39_32 : decode prog_3_method_13_code 32 = .ok (.getfield 46, 3) := by decide +kernel
theorem d39_35 : decode prog_3_method_13_code 35 = .ok (.iload_n 2, 1) := by decide +kernel
theorem d39_36 : decode prog_3_method_13_code 36 = .ok (.bipush (-2), 2) := by decide +kernel
theorem d39_38 : decode prog_3_method_13_code 38 = .ok (.invokevirtual 36, 3) := by decide +kernel
theorem d39_41 : decode prog_3_method_13_code 41 = .ok (.ireturn, 1) := by decide +kernel
theorem d39_42 : decode prog_3_method_13_code 42 = .ok (.aload_n 1, 1) := by decide +kernel
theorem d39_43 : decode prog_3_method_13_code 43 = .ok (.aload_n 0, 1) := by decide +kernel
theorem d39_44 : decode prog_3_method_13_code 44 = .ok (.getfield 9, 3) := by decide +kernel
theorem d39_47 : decode prog_3_method_13_code 47 = .ok (.getfield 126, 3) := by decide +kernel
theorem d39_50 : decode prog_3_method_13_code 50 = .ok (.iload_n 2, 1) := by decide +kernel
theorem d39_51 : decode prog_3_method_13_code 51 = .ok (.iaload, 1) := by decide +kernel
theorem d39_52 : decode prog_3_method_13_code 52 = .ok (.invokevirtual 166, 3) := by decide +kernel
theorem d39_55 : decode prog_3_method_13_code 55 = .ok (.istore 4, 2) := by decide +kernel
theorem d39_57 : decode prog_3_method_13_code 57 = .ok (.iload 4, 2) := by decide +kernel
theorem d39_59 : decode prog_3_method_13_code 59 = .ok (.sipush 500, 3) := by decide +kernel
theorem d39_62 : decode prog_3_method_13_code 62 = .ok (.if_icmp .ne 15, 3) := by decide +kernel
theorem d39_65 : decode prog_3_method_13_code 65 = .ok (.aload_n 0, 1) := by decide +kernel
theorem d39_66 : decode prog_3_method_13_code 66 = .ok (.aload_n 1, 1) := by decide +kernel
theorem d39_67 : decode prog_3_method_13_code 67 = .ok (.getfield 46, 3) := by decide +kernel
theorem d39_70 : decode prog_3_method_13_code 70 = .ok (.iload_n 2, 1) := by decide +kernel
theorem d39_71 : decode prog_3_method_13_code 71 = .ok (.bipush (-4), 2) := by decide +kernel
theorem d39_73 : decode prog_3_method_13_code 73 = .ok (.invokevirtual 36, 3) := by decide +kernel
theorem d39_76 : decode prog_3_method_13_code 76 = .ok (.ireturn, 1) := by decide +kernel
theorem d39_77 : decode prog_3_method_13_code 77 = .ok (.aload_n 1, 1) := by decide +kernel
theorem d39_78 : decode prog_3_method_13_code 78 = .ok (.getfield 144, 3) := by decide +kernel
theorem d39_81 : decode prog_3_method_13_code 81 = .ok (.iload_n 3, 1) := by decide +kernel
theorem d39_82 : decode prog_3_method_13_code 82 = .ok (.baload, 1) := by decide +kernel
theorem d39_83 : decode prog_3_method_13_code 83 = .ok (.ifCond .ne 11, 3) := by decide +kernel
theorem d39_86 : decode prog_3_method_13_code 86 = .ok (.aload_n 1, 1) := by decide +kernel
theorem d39_87 : decode prog_3_method_13_code 87 = .ok (.iload_n 2, 1) := by decide +kernel
theorem d39_88 : decode prog_3_method_13_code 88 = .ok (.iload 4, 2) := by decide +kernel
theorem d39_90 : decode prog_3_method_13_code 90 = .ok (.invokevirtual 122, 3) := by decide +kernel
theorem d39_93 : decode prog_3_method_13_code 93 = .ok (.ireturn, 1) := by decide +kernel
theorem d39_94 : decode prog_3_method_13_code 94 = .ok (.iload 4, 2) := by decide +kernel
theorem d39_96 : decode prog_3_method_13_code 96 = .ok (.aload_n 1, 1) := by decide +kernel
theorem d39_97 : decode prog_3_method_13_code 97 = .ok (.getfield 77, 3) := by decide +kernel
theorem d39_100 : decode prog_3_method_13_code 100 = .ok (.iload_n 3, 1) := by decide +kernel
theorem d39_101 : decode prog_3_method_13_code 101 = .ok (.laload, 1) := by decide +kernel
theorem d39_102 : decode prog_3_method_13_code 102 = .ok (.invokestatic 81, 3) := by decide +kernel
theorem d39_105 : decode prog_3_method_13_code 105 = .ok (.ifCond .eq 19, 3) := by decide +kernel
theorem d39_108 : decode prog_3_method_13_code 108 = .ok (.aload_n 1, 1) := by decide +kernel
theorem d39_109 : decode prog_3_method_13_code 109 = .ok (.iload_n 2, 1) := by decide +kernel
theorem d39_110 : decode prog_3_method_13_code 110 = .ok (.iload 4, 2) := by decide +kernel
theorem d39_112 : decode prog_3_method_13_code 112 = .ok (.aload_n 1, 1) := by decide +kernel
theorem d39_113 : decode prog_3_method_13_code 113 = .ok (.getfield 77, 3) := by decide +kernel
theorem d39_116 : decode prog_3_method_13_code 116 = .ok (.iload_n 3, 1) := by decide +kernel
theorem d39_117 : decode prog_3_method_13_code 117 = .ok (.laload, 1) := by decide +kernel
theorem d39_118 : decode prog_3_method_13_code 118 = .ok (.invokevirtual 94, 3) := by decide +kernel
theorem d39_121 : decode prog_3_method_13_code 121 = .ok (.goto 14, 3) := by decide +kernel
theorem d39_124 : decode prog_3_method_13_code 124 = .ok (.aload_n 0, 1) := by decide +kernel
theorem d39_125 : decode prog_3_method_13_code 125 = .ok (.aload_n 1, 1) := by decide +kernel
theorem d39_126 : decode prog_3_method_13_code 126 = .ok (.getfield 46, 3) := by decide +kernel
theorem d39_129 : decode prog_3_method_13_code 129 = .ok (.iload_n 2, 1) := by decide +kernel
theorem d39_130 : decode prog_3_method_13_code 130 = .ok (.bipush (-3), 2) := by decide +kernel
theorem d39_132 : decode prog_3_method_13_code 132 = .ok (.invokevirtual 36, 3) := by decide +kernel
theorem d39_135 : decode prog_3_method_13_code 135 = .ok (.ireturn, 1) := by decide +kernel

/-! decode rows, printed by a program of mine out of the listing -/
theorem d60_0 : decode prog_6_method_6_code 0 = .ok (.aload_n 0, 1) := by decide +kernel
theorem d60_1 : decode prog_6_method_6_code 1 = .ok (.aload_n 1, 1) := by decide +kernel
theorem d60_2 : decode prog_6_method_6_code 2 = .ok (.aload_n 0, 1) := by decide +kernel
theorem d60_3 : decode prog_6_method_6_code 3 = .ok (.getfield 9, 3) := by decide +kernel
theorem d60_6 : decode prog_6_method_6_code 6 = .ok (.getfield 54, 3) := by decide +kernel
theorem d60_9 : decode prog_6_method_6_code 9 = .ok (.iload_n 2, 1) := by decide +kernel
theorem d60_10 : decode prog_6_method_6_code 10 = .ok (.iaload, 1) := by decide +kernel
theorem d60_11 : decode prog_6_method_6_code 11 = .ok (.lload_n 3, 1) := by decide +kernel
theorem d60_12 : decode prog_6_method_6_code 12 = .ok (.lload 5, 2) := by decide +kernel
theorem d60_14 : decode prog_6_method_6_code 14 = .ok (.iload 7, 2) := by decide +kernel
theorem d60_16 : decode prog_6_method_6_code 16 = .ok (.invokevirtual 37, 3) := by decide +kernel
theorem d60_19 : decode prog_6_method_6_code 19 = .ok (.lstore 8, 2) := by decide +kernel
theorem d60_21 : decode prog_6_method_6_code 21 = .ok (.lload 8, 2) := by decide +kernel
theorem d60_23 : decode prog_6_method_6_code 23 = .ok (.invokestatic 69, 3) := by decide +kernel
theorem d60_26 : decode prog_6_method_6_code 26 = .ok (.ifCond .eq 8, 3) := by decide +kernel
theorem d60_29 : decode prog_6_method_6_code 29 = .ok (.lload 8, 2) := by decide +kernel
theorem d60_31 : decode prog_6_method_6_code 31 = .ok (.goto 14, 3) := by decide +kernel
theorem d60_34 : decode prog_6_method_6_code 34 = .ok (.aload_n 1, 1) := by decide +kernel
theorem d60_35 : decode prog_6_method_6_code 35 = .ok (.getfield 78, 3) := by decide +kernel
theorem d60_38 : decode prog_6_method_6_code 38 = .ok (.iload_n 2, 1) := by decide +kernel
theorem d60_39 : decode prog_6_method_6_code 39 = .ok (.iaload, 1) := by decide +kernel
theorem d60_40 : decode prog_6_method_6_code 40 = .ok (.lload 8, 2) := by decide +kernel
theorem d60_42 : decode prog_6_method_6_code 42 = .ok (.invokestatic 88, 3) := by decide +kernel
theorem d60_45 : decode prog_6_method_6_code 45 = .ok (.lreturn, 1) := by decide +kernel
theorem d61_0 : decode prog_6_method_7_code 0 = .ok (.iload 7, 2) := by decide +kernel
theorem d61_2 : decode prog_6_method_7_code 2 = .ok (.iconst 5, 1) := by decide +kernel
theorem d61_3 : decode prog_6_method_7_code 3 = .ok (.if_icmp .lt 7, 3) := by decide +kernel
theorem d61_6 : decode prog_6_method_7_code 6 = .ok (.ldc2_w 92, 3) := by decide +kernel
theorem d61_9 : decode prog_6_method_7_code 9 = .ok (.lreturn, 1) := by decide +kernel
theorem d61_10 : decode prog_6_method_7_code 10 = .ok (.aload_n 0, 1) := by decide +kernel
theorem d61_11 : decode prog_6_method_7_code 11 = .ok (.getfield 15, 3) := by decide +kernel
theorem d61_14 : decode prog_6_method_7_code 14 = .ok (.aload_n 1, 1) := by decide +kernel
theorem d61_15 : decode prog_6_method_7_code 15 = .ok (.getfield 94, 3) := by decide +kernel
theorem d61_18 : decode prog_6_method_7_code 18 = .ok (.iload_n 2, 1) := by decide +kernel
theorem d61_19 : decode prog_6_method_7_code 19 = .ok (.iaload, 1) := by decide +kernel
theorem d61_20 : decode prog_6_method_7_code 20 = .ok (.aaload, 1) := by decide +kernel
theorem d61_21 : decode prog_6_method_7_code 21 = .ok (.astore 8, 2) := by decide +kernel
theorem d61_23 : decode prog_6_method_7_code 23 = .ok (.aload 8, 2) := by decide +kernel
theorem d61_25 : decode prog_6_method_7_code 25 = .ok (.iconst 0, 1) := by decide +kernel
theorem d61_26 : decode prog_6_method_7_code 26 = .ok (.invokevirtual 97, 3) := by decide +kernel
theorem d61_29 : decode prog_6_method_7_code 29 = .ok (.ifCond .eq 25, 3) := by decide +kernel
theorem d61_32 : decode prog_6_method_7_code 32 = .ok (.aload_n 0, 1) := by decide +kernel
theorem d61_33 : decode prog_6_method_7_code 33 = .ok (.aload_n 1, 1) := by decide +kernel
theorem d61_34 : decode prog_6_method_7_code 34 = .ok (.aload_n 0, 1) := by decide +kernel
theorem d61_35 : decode prog_6_method_7_code 35 = .ok (.getfield 9, 3) := by decide +kernel
theorem d61_38 : decode prog_6_method_7_code 38 = .ok (.getfield 75, 3) := by decide +kernel
theorem d61_41 : decode prog_6_method_7_code 41 = .ok (.iload_n 2, 1) := by decide +kernel
theorem d61_42 : decode prog_6_method_7_code 42 = .ok (.iaload, 1) := by decide +kernel
theorem d61_43 : decode prog_6_method_7_code 43 = .ok (.lload_n 3, 1) := by decide +kernel
theorem d61_44 : decode prog_6_method_7_code 44 = .ok (.lload 5, 2) := by decide +kernel
theorem d61_46 : decode prog_6_method_7_code 46 = .ok (.iload 7, 2) := by decide +kernel
theorem d61_48 : decode prog_6_method_7_code 48 = .ok (.invokevirtual 37, 3) := by decide +kernel
theorem d61_51 : decode prog_6_method_7_code 51 = .ok (.goto 4, 3) := by decide +kernel
theorem d61_54 : decode prog_6_method_7_code 54 = .ok (.lconst 0, 1) := by decide +kernel
theorem d61_55 : decode prog_6_method_7_code 55 = .ok (.lstore 9, 2) := by decide +kernel
theorem d61_57 : decode prog_6_method_7_code 57 = .ok (.lload 9, 2) := by decide +kernel
theorem d61_59 : decode prog_6_method_7_code 59 = .ok (.invokestatic 69, 3) := by decide +kernel
theorem d61_62 : decode prog_6_method_7_code 62 = .ok (.ifCond .eq 6, 3) := by decide +kernel
theorem d61_65 : decode prog_6_method_7_code 65 = .ok (.lload 9, 2) := by decide +kernel
theorem d61_67 : decode prog_6_method_7_code 67 = .ok (.lreturn, 1) := by decide +kernel
theorem d61_68 : decode prog_6_method_7_code 68 = .ok (.aload 8, 2) := by decide +kernel
theorem d61_70 : decode prog_6_method_7_code 70 = .ok (.iconst 1, 1) := by decide +kernel
theorem d61_71 : decode prog_6_method_7_code 71 = .ok (.invokevirtual 97, 3) := by decide +kernel
theorem d61_74 : decode prog_6_method_7_code 74 = .ok (.ifCond .eq 25, 3) := by decide +kernel
theorem d61_77 : decode prog_6_method_7_code 77 = .ok (.aload_n 0, 1) := by decide +kernel
theorem d61_78 : decode prog_6_method_7_code 78 = .ok (.aload_n 1, 1) := by decide +kernel
theorem d61_79 : decode prog_6_method_7_code 79 = .ok (.aload_n 0, 1) := by decide +kernel
theorem d61_80 : decode prog_6_method_7_code 80 = .ok (.getfield 9, 3) := by decide +kernel
theorem d61_83 : decode prog_6_method_7_code 83 = .ok (.getfield 85, 3) := by decide +kernel
theorem d61_86 : decode prog_6_method_7_code 86 = .ok (.iload_n 2, 1) := by decide +kernel
theorem d61_87 : decode prog_6_method_7_code 87 = .ok (.iaload, 1) := by decide +kernel
theorem d61_88 : decode prog_6_method_7_code 88 = .ok (.lload_n 3, 1) := by decide +kernel
theorem d61_89 : decode prog_6_method_7_code 89 = .ok (.lload 5, 2) := by decide +kernel
theorem d61_91 : decode prog_6_method_7_code 91 = .ok (.iload 7, 2) := by decide +kernel
theorem d61_93 : decode prog_6_method_7_code 93 = .ok (.invokevirtual 37, 3) := by decide +kernel
theorem d61_96 : decode prog_6_method_7_code 96 = .ok (.goto 4, 3) := by decide +kernel
theorem d61_99 : decode prog_6_method_7_code 99 = .ok (.lconst 0, 1) := by decide +kernel
theorem d61_100 : decode prog_6_method_7_code 100 = .ok (.lstore 11, 2) := by decide +kernel
theorem d61_102 : decode prog_6_method_7_code 102 = .ok (.lload 11, 2) := by decide +kernel
theorem d61_104 : decode prog_6_method_7_code 104 = .ok (.invokestatic 69, 3) := by decide +kernel
theorem d61_107 : decode prog_6_method_7_code 107 = .ok (.ifCond .eq 6, 3) := by decide +kernel
theorem d61_110 : decode prog_6_method_7_code 110 = .ok (.lload 11, 2) := by decide +kernel
theorem d61_112 : decode prog_6_method_7_code 112 = .ok (.lreturn, 1) := by decide +kernel
theorem d61_113 : decode prog_6_method_7_code 113 = .ok (.aload_n 0, 1) := by decide +kernel
theorem d61_114 : decode prog_6_method_7_code 114 = .ok (.dup, 1) := by decide +kernel
theorem d61_115 : decode prog_6_method_7_code 115 = .ok (.getfield 23, 3) := by decide +kernel
theorem d61_118 : decode prog_6_method_7_code 118 = .ok (.iconst 1, 1) := by decide +kernel
theorem d61_119 : decode prog_6_method_7_code 119 = .ok (.iadd, 1) := by decide +kernel
theorem d61_120 : decode prog_6_method_7_code 120 = .ok (.putfield 23, 3) := by decide +kernel
theorem d61_123 : decode prog_6_method_7_code 123 = .ok (.aload_n 0, 1) := by decide +kernel
theorem d61_124 : decode prog_6_method_7_code 124 = .ok (.aload 8, 2) := by decide +kernel
theorem d61_126 : decode prog_6_method_7_code 126 = .ok (.aload_n 0, 1) := by decide +kernel
theorem d61_127 : decode prog_6_method_7_code 127 = .ok (.getfield 9, 3) := by decide +kernel
theorem d61_130 : decode prog_6_method_7_code 130 = .ok (.getfield 26, 3) := by decide +kernel
theorem d61_133 : decode prog_6_method_7_code 133 = .ok (.aload 8, 2) := by decide +kernel
theorem d61_135 : decode prog_6_method_7_code 135 = .ok (.getfield 32, 3) := by decide +kernel
theorem d61_138 : decode prog_6_method_7_code 138 = .ok (.iaload, 1) := by decide +kernel
theorem d61_139 : decode prog_6_method_7_code 139 = .ok (.lload 9, 2) := by decide +kernel
theorem d61_141 : decode prog_6_method_7_code 141 = .ok (.lload 11, 2) := by decide +kernel
theorem d61_143 : decode prog_6_method_7_code 143 = .ok (.iload 7, 2) := by decide +kernel
theorem d61_145 : decode prog_6_method_7_code 145 = .ok (.iconst 1, 1) := by decide +kernel
theorem d61_146 : decode prog_6_method_7_code 146 = .ok (.iadd, 1) := by decide +kernel
theorem d61_147 : decode prog_6_method_7_code 147 = .ok (.invokevirtual 37, 3) := by decide +kernel
theorem d61_150 : decode prog_6_method_7_code 150 = .ok (.lreturn, 1) := by decide +kernel
theorem d62_0 : decode prog_10_method_2_code 0 = .ok (.iload_n 1, 1) := by decide +kernel
theorem d62_1 : decode prog_10_method_2_code 1 = .ok (.iconst 1, 1) := by decide +kernel
theorem d62_2 : decode prog_10_method_2_code 2 = .ok (.if_icmp .lt 13, 3) := by decide +kernel
theorem d62_5 : decode prog_10_method_2_code 5 = .ok (.iload_n 1, 1) := by decide +kernel
theorem d62_6 : decode prog_10_method_2_code 6 = .ok (.bipush 31, 2) := by decide +kernel
theorem d62_8 : decode prog_10_method_2_code 8 = .ok (.if_icmp .gt 7, 3) := by decide +kernel
theorem d62_11 : decode prog_10_method_2_code 11 = .ok (.iconst 1, 1) := by decide +kernel
theorem d62_12 : decode prog_10_method_2_code 12 = .ok (.goto 4, 3) := by decide +kernel
theorem d62_15 : decode prog_10_method_2_code 15 = .ok (.iconst 0, 1) := by decide +kernel
theorem d62_16 : decode prog_10_method_2_code 16 = .ok (.ireturn, 1) := by decide +kernel
theorem d63_0 : decode prog_10_method_3_code 0 = .ok (.aload_n 0, 1) := by decide +kernel
theorem d63_1 : decode prog_10_method_3_code 1 = .ok (.iload_n 1, 1) := by decide +kernel
theorem d63_2 : decode prog_10_method_3_code 2 = .ok (.invokevirtual 125, 3) := by decide +kernel
theorem d63_5 : decode prog_10_method_3_code 5 = .ok (.ifCond .ne 38, 3) := by decide +kernel
theorem d63_8 : decode prog_10_method_3_code 8 = .ok (.aload_n 0, 1) := by decide +kernel
theorem d63_9 : decode prog_10_method_3_code 9 = .ok (.iload_n 1, 1) := by decide +kernel
theorem d63_10 : decode prog_10_method_3_code 10 = .ok (.ineg, 1) := by decide +kernel
theorem d63_11 : decode prog_10_method_3_code 11 = .ok (.invokevirtual 125, 3) := by decide +kernel
theorem d63_14 : decode prog_10_method_3_code 14 = .ok (.ifCond .ne 29, 3) := by decide +kernel
theorem d63_17 : decode prog_10_method_3_code 17 = .ok (.iload_n 1, 1) := by decide +kernel
theorem d63_18 : decode prog_10_method_3_code 18 = .ok (.bipush 100, 2) := by decide +kernel
theorem d63_20 : decode prog_10_method_3_code 20 = .ok (.if_icmp .eq 23, 3) := by decide +kernel
theorem d63_23 : decode prog_10_method_3_code 23 = .ok (.iload_n 1, 1) := by decide +kernel
theorem d63_24 : decode prog_10_method_3_code 24 = .ok (.bipush 101, 2) := by decide +kernel
theorem d63_26 : decode prog_10_method_3_code 26 = .ok (.if_icmp .eq 17, 3) := by decide +kernel
theorem d63_29 : decode prog_10_method_3_code 29 = .ok (.iload_n 1, 1) := by decide +kernel
theorem d63_30 : decode prog_10_method_3_code 30 = .ok (.sipush 200, 3) := by decide +kernel
theorem d63_33 : decode prog_10_method_3_code 33 = .ok (.if_icmp .eq 10, 3) := by decide +kernel
theorem d63_36 : decode prog_10_method_3_code 36 = .ok (.iload_n 1, 1) := by decide +kernel
theorem d63_37 : decode prog_10_method_3_code 37 = .ok (.sipush 201, 3) := by decide +kernel
theorem d63_40 : decode prog_10_method_3_code 40 = .ok (.if_icmp .ne 7, 3) := by decide +kernel
theorem d63_43 : decode prog_10_method_3_code 43 = .ok (.iconst 1, 1) := by decide +kernel
theorem d63_44 : decode prog_10_method_3_code 44 = .ok (.goto 4, 3) := by decide +kernel
theorem d63_47 : decode prog_10_method_3_code 47 = .ok (.iconst 0, 1) := by decide +kernel
theorem d63_48 : decode prog_10_method_3_code 48 = .ok (.ireturn, 1) := by decide +kernel
theorem d64_0 : decode prog_10_method_4_code 0 = .ok (.aload_n 0, 1) := by decide +kernel
theorem d64_1 : decode prog_10_method_4_code 1 = .ok (.iload_n 1, 1) := by decide +kernel
theorem d64_2 : decode prog_10_method_4_code 2 = .ok (.invokevirtual 129, 3) := by decide +kernel
theorem d64_5 : decode prog_10_method_4_code 5 = .ok (.ifCond .ne 21, 3) := by decide +kernel
theorem d64_8 : decode prog_10_method_4_code 8 = .ok (.iload_n 1, 1) := by decide +kernel
theorem d64_9 : decode prog_10_method_4_code 9 = .ok (.ifCond .eq 17, 3) := by decide +kernel
theorem d64_12 : decode prog_10_method_4_code 12 = .ok (.iload_n 1, 1) := by decide +kernel
theorem d64_13 : decode prog_10_method_4_code 13 = .ok (.sipush 300, 3) := by decide +kernel
theorem d64_16 : decode prog_10_method_4_code 16 = .ok (.if_icmp .eq 10, 3) := by decide +kernel
theorem d64_19 : decode prog_10_method_4_code 19 = .ok (.iload_n 1, 1) := by decide +kernel
theorem d64_20 : decode prog_10_method_4_code 20 = .ok (.sipush 400, 3) := by decide +kernel
theorem d64_23 : decode prog_10_method_4_code 23 = .ok (.if_icmp .ne 7, 3) := by decide +kernel
theorem d64_26 : decode prog_10_method_4_code 26 = .ok (.iconst 1, 1) := by decide +kernel
theorem d64_27 : decode prog_10_method_4_code 27 = .ok (.goto 4, 3) := by decide +kernel
theorem d64_30 : decode prog_10_method_4_code 30 = .ok (.iconst 0, 1) := by decide +kernel
theorem d64_31 : decode prog_10_method_4_code 31 = .ok (.ireturn, 1) := by decide +kernel
theorem d65_0 : decode prog_10_method_5_code 0 = .ok (.iload_n 1, 1) := by decide +kernel
theorem d65_1 : decode prog_10_method_5_code 1 = .ok (.ifCond .lt 15, 3) := by decide +kernel
theorem d65_4 : decode prog_10_method_5_code 4 = .ok (.iload_n 1, 1) := by decide +kernel
theorem d65_5 : decode prog_10_method_5_code 5 = .ok (.aload_n 0, 1) := by decide +kernel
theorem d65_6 : decode prog_10_method_5_code 6 = .ok (.getfield 7, 3) := by decide +kernel
theorem d65_9 : decode prog_10_method_5_code 9 = .ok (.if_icmp .ge 7, 3) := by decide +kernel
theorem d65_12 : decode prog_10_method_5_code 12 = .ok (.iconst 1, 1) := by decide +kernel
theorem d65_13 : decode prog_10_method_5_code 13 = .ok (.goto 4, 3) := by decide +kernel
theorem d65_16 : decode prog_10_method_5_code 16 = .ok (.iconst 0, 1) := by decide +kernel
theorem d65_17 : decode prog_10_method_5_code 17 = .ok (.ireturn, 1) := by decide +kernel
theorem d66_0 : decode prog_10_method_6_code 0 = .ok (.iload_n 1, 1) := by decide +kernel
theorem d66_1 : decode prog_10_method_6_code 1 = .ok (.ifCond .ge 7, 3) := by decide +kernel
theorem d66_4 : decode prog_10_method_6_code 4 = .ok (.iconst 0, 1) := by decide +kernel
theorem d66_5 : decode prog_10_method_6_code 5 = .ok (.goto 9, 3) := by decide +kernel
theorem d66_8 : decode prog_10_method_6_code 8 = .ok (.aload_n 0, 1) := by decide +kernel
theorem d66_9 : decode prog_10_method_6_code 9 = .ok (.getfield 38, 3) := by decide +kernel
theorem d66_12 : decode prog_10_method_6_code 12 = .ok (.iload_n 1, 1) := by decide +kernel
theorem d66_13 : decode prog_10_method_6_code 13 = .ok (.iaload, 1) := by decide +kernel
theorem d66_14 : decode prog_10_method_6_code 14 = .ok (.ireturn, 1) := by decide +kernel
theorem d67_0 : decode prog_10_method_7_code 0 = .ok (.aload_n 0, 1) := by decide +kernel
theorem d67_1 : decode prog_10_method_7_code 1 = .ok (.iload_n 1, 1) := by decide +kernel
theorem d67_2 : decode prog_10_method_7_code 2 = .ok (.invokevirtual 132, 3) := by decide +kernel
theorem d67_5 : decode prog_10_method_7_code 5 = .ok (.aload_n 0, 1) := by decide +kernel
theorem d67_6 : decode prog_10_method_7_code 6 = .ok (.iload_n 2, 1) := by decide +kernel
theorem d67_7 : decode prog_10_method_7_code 7 = .ok (.invokevirtual 132, 3) := by decide +kernel
theorem d67_10 : decode prog_10_method_7_code 10 = .ok (.if_icmp .le 11, 3) := by decide +kernel
theorem d67_13 : decode prog_10_method_7_code 13 = .ok (.aload_n 0, 1) := by decide +kernel
theorem d67_14 : decode prog_10_method_7_code 14 = .ok (.iload_n 1, 1) := by decide +kernel
theorem d67_15 : decode prog_10_method_7_code 15 = .ok (.invokevirtual 132, 3) := by decide +kernel
theorem d67_18 : decode prog_10_method_7_code 18 = .ok (.goto 8, 3) := by decide +kernel
theorem d67_21 : decode prog_10_method_7_code 21 = .ok (.aload_n 0, 1) := by decide +kernel
theorem d67_22 : decode prog_10_method_7_code 22 = .ok (.iload_n 2, 1) := by decide +kernel
theorem d67_23 : decode prog_10_method_7_code 23 = .ok (.invokevirtual 132, 3) := by decide +kernel
theorem d67_26 : decode prog_10_method_7_code 26 = .ok (.istore 4, 2) := by decide +kernel
theorem d67_28 : decode prog_10_method_7_code 28 = .ok (.iconst 1, 1) := by decide +kernel
theorem d67_29 : decode prog_10_method_7_code 29 = .ok (.iload 4, 2) := by decide +kernel
theorem d67_31 : decode prog_10_method_7_code 31 = .ok (.aload_n 0, 1) := by decide +kernel
theorem d67_32 : decode prog_10_method_7_code 32 = .ok (.iload_n 3, 1) := by decide +kernel
theorem d67_33 : decode prog_10_method_7_code 33 = .ok (.invokevirtual 132, 3) := by decide +kernel
theorem d67_36 : decode prog_10_method_7_code 36 = .ok (.if_icmp .le 8, 3) := by decide +kernel
theorem d67_39 : decode prog_10_method_7_code 39 = .ok (.iload 4, 2) := by decide +kernel
theorem d67_41 : decode prog_10_method_7_code 41 = .ok (.goto 8, 3) := by decide +kernel
theorem d67_44 : decode prog_10_method_7_code 44 = .ok (.aload_n 0, 1) := by decide +kernel
theorem d67_45 : decode prog_10_method_7_code 45 = .ok (.iload_n 3, 1) := by decide +kernel
theorem d67_46 : decode prog_10_method_7_code 46 = .ok (.invokevirtual 132, 3) := by decide +kernel
theorem d67_49 : decode prog_10_method_7_code 49 = .ok (.iadd, 1) := by decide +kernel
theorem d67_50 : decode prog_10_method_7_code 50 = .ok (.ireturn, 1) := by decide +kernel
theorem d68_0 : decode prog_10_method_8_code 0 = .ok (.iload_n 1, 1) := by decide +kernel
theorem d68_1 : decode prog_10_method_8_code 1 = .ok (.iconst 1, 1) := by decide +kernel
theorem d68_2 : decode prog_10_method_8_code 2 = .ok (.if_icmp .le 13, 3) := by decide +kernel
theorem d68_5 : decode prog_10_method_8_code 5 = .ok (.iload_n 1, 1) := by decide +kernel
theorem d68_6 : decode prog_10_method_8_code 6 = .ok (.bipush 13, 2) := by decide +kernel
theorem d68_8 : decode prog_10_method_8_code 8 = .ok (.if_icmp .ge 7, 3) := by decide +kernel
theorem d68_11 : decode prog_10_method_8_code 11 = .ok (.iconst 1, 1) := by decide +kernel
theorem d68_12 : decode prog_10_method_8_code 12 = .ok (.goto 4, 3) := by decide +kernel
theorem d68_15 : decode prog_10_method_8_code 15 = .ok (.iconst 0, 1) := by decide +kernel
theorem d68_16 : decode prog_10_method_8_code 16 = .ok (.istore 5, 2) := by decide +kernel
theorem d68_18 : decode prog_10_method_8_code 18 = .ok (.iload_n 1, 1) := by decide +kernel
theorem d68_19 : decode prog_10_method_8_code 19 = .ok (.ifCond .lt 13, 3) := by decide +kernel
theorem d68_22 : decode prog_10_method_8_code 22 = .ok (.iload_n 1, 1) := by decide +kernel
theorem d68_23 : decode prog_10_method_8_code 23 = .ok (.bipush 17, 2) := by decide +kernel
theorem d68_25 : decode prog_10_method_8_code 25 = .ok (.if_icmp .ge 7, 3) := by decide +kernel
theorem d68_28 : decode prog_10_method_8_code 28 = .ok (.iconst 1, 1) := by decide +kernel
theorem d68_29 : decode prog_10_method_8_code 29 = .ok (.goto 4, 3) := by decide +kernel
theorem d68_32 : decode prog_10_method_8_code 32 = .ok (.iconst 0, 1) := by decide +kernel
theorem d68_33 : decode prog_10_method_8_code 33 = .ok (.istore 6, 2) := by decide +kernel
theorem d68_35 : decode prog_10_method_8_code 35 = .ok (.iload_n 1, 1) := by decide +kernel
theorem d68_36 : decode prog_10_method_8_code 36 = .ok (.iconst 1, 1) := by decide +kernel
theorem d68_37 : decode prog_10_method_8_code 37 = .ok (.if_icmp .ne 19, 3) := by decide +kernel
theorem d68_40 : decode prog_10_method_8_code 40 = .ok (.iload_n 2, 1) := by decide +kernel
theorem d68_41 : decode prog_10_method_8_code 41 = .ok (.ifCond .eq 8, 3) := by decide +kernel
theorem d68_44 : decode prog_10_method_8_code 44 = .ok (.iload_n 2, 1) := by decide +kernel
theorem d68_45 : decode prog_10_method_8_code 45 = .ok (.iconst 1, 1) := by decide +kernel
theorem d68_46 : decode prog_10_method_8_code 46 = .ok (.if_icmp .ne 7, 3) := by decide +kernel
theorem d68_49 : decode prog_10_method_8_code 49 = .ok (.iconst 1, 1) := by decide +kernel
theorem d68_50 : decode prog_10_method_8_code 50 = .ok (.goto 4, 3) := by decide +kernel
theorem d68_53 : decode prog_10_method_8_code 53 = .ok (.iconst 0, 1) := by decide +kernel
theorem d68_54 : decode prog_10_method_8_code 54 = .ok (.istore 6, 2) := by decide +kernel
theorem d68_56 : decode prog_10_method_8_code 56 = .ok (.iload 5, 2) := by decide +kernel
theorem d68_58 : decode prog_10_method_8_code 58 = .ok (.ifCond .eq 26, 3) := by decide +kernel
theorem d68_61 : decode prog_10_method_8_code 61 = .ok (.aload_n 0, 1) := by decide +kernel
theorem d68_62 : decode prog_10_method_8_code 62 = .ok (.iload_n 2, 1) := by decide +kernel
theorem d68_63 : decode prog_10_method_8_code 63 = .ok (.invokevirtual 136, 3) := by decide +kernel
theorem d68_66 : decode prog_10_method_8_code 66 = .ok (.ifCond .eq 15, 3) := by decide +kernel
theorem d68_69 : decode prog_10_method_8_code 69 = .ok (.aload_n 0, 1) := by decide +kernel
theorem d68_70 : decode prog_10_method_8_code 70 = .ok (.iload_n 3, 1) := by decide +kernel
theorem d68_71 : decode prog_10_method_8_code 71 = .ok (.invokevirtual 136, 3) := by decide +kernel
theorem d68_74 : decode prog_10_method_8_code 74 = .ok (.ifCond .eq 7, 3) := by decide +kernel
theorem d68_77 : decode prog_10_method_8_code 77 = .ok (.iconst 1, 1) := by decide +kernel
theorem d68_78 : decode prog_10_method_8_code 78 = .ok (.goto 4, 3) := by decide +kernel
theorem d68_81 : decode prog_10_method_8_code 81 = .ok (.iconst 0, 1) := by decide +kernel
theorem d68_82 : decode prog_10_method_8_code 82 = .ok (.istore 6, 2) := by decide +kernel
theorem d68_84 : decode prog_10_method_8_code 84 = .ok (.iload_n 1, 1) := by decide +kernel
theorem d68_85 : decode prog_10_method_8_code 85 = .ok (.bipush 13, 2) := by decide +kernel
theorem d68_87 : decode prog_10_method_8_code 87 = .ok (.if_icmp .ne 35, 3) := by decide +kernel
theorem d68_90 : decode prog_10_method_8_code 90 = .ok (.aload_n 0, 1) := by decide +kernel
theorem d68_91 : decode prog_10_method_8_code 91 = .ok (.iload_n 2, 1) := by decide +kernel
theorem d68_92 : decode prog_10_method_8_code 92 = .ok (.invokevirtual 136, 3) := by decide +kernel
theorem d68_95 : decode prog_10_method_8_code 95 = .ok (.ifCond .eq 24, 3) := by decide +kernel
theorem d68_98 : decode prog_10_method_8_code 98 = .ok (.aload_n 0, 1) := by decide +kernel
theorem d68_99 : decode prog_10_method_8_code 99 = .ok (.iload_n 3, 1) := by decide +kernel
theorem d68_100 : decode prog_10_method_8_code 100 = .ok (.invokevirtual 136, 3) := by decide +kernel
theorem d68_103 : decode prog_10_method_8_code 103 = .ok (.ifCond .eq 16, 3) := by decide +kernel
theorem d68_106 : decode prog_10_method_8_code 106 = .ok (.aload_n 0, 1) := by decide +kernel
theorem d68_107 : decode prog_10_method_8_code 107 = .ok (.iload 4, 2) := by decide +kernel
theorem d68_109 : decode prog_10_method_8_code 109 = .ok (.invokevirtual 136, 3) := by decide +kernel
theorem d68_112 : decode prog_10_method_8_code 112 = .ok (.ifCond .eq 7, 3) := by decide +kernel
theorem d68_115 : decode prog_10_method_8_code 115 = .ok (.iconst 1, 1) := by decide +kernel
theorem d68_116 : decode prog_10_method_8_code 116 = .ok (.goto 4, 3) := by decide +kernel
theorem d68_119 : decode prog_10_method_8_code 119 = .ok (.iconst 0, 1) := by decide +kernel
theorem d68_120 : decode prog_10_method_8_code 120 = .ok (.istore 6, 2) := by decide +kernel
theorem d68_122 : decode prog_10_method_8_code 122 = .ok (.iload_n 1, 1) := by decide +kernel
theorem d68_123 : decode prog_10_method_8_code 123 = .ok (.bipush 14, 2) := by decide +kernel
theorem d68_125 : decode prog_10_method_8_code 125 = .ok (.if_icmp .ne 26, 3) := by decide +kernel
theorem d68_128 : decode prog_10_method_8_code 128 = .ok (.aload_n 0, 1) := by decide +kernel
theorem d68_129 : decode prog_10_method_8_code 129 = .ok (.iload_n 2, 1) := by decide +kernel
theorem d68_130 : decode prog_10_method_8_code 130 = .ok (.invokevirtual 136, 3) := by decide +kernel
theorem d68_133 : decode prog_10_method_8_code 133 = .ok (.ifCond .eq 15, 3) := by decide +kernel
theorem d68_136 : decode prog_10_method_8_code 136 = .ok (.aload_n 0, 1) := by decide +kernel
theorem d68_137 : decode prog_10_method_8_code 137 = .ok (.iload_n 3, 1) := by decide +kernel
theorem d68_138 : decode prog_10_method_8_code 138 = .ok (.invokevirtual 129, 3) := by decide +kernel
theorem d68_141 : decode prog_10_method_8_code 141 = .ok (.ifCond .eq 7, 3) := by decide +kernel
theorem d68_144 : decode prog_10_method_8_code 144 = .ok (.iconst 1, 1) := by decide +kernel
theorem d68_145 : decode prog_10_method_8_code 145 = .ok (.goto 4, 3) := by decide +kernel
theorem d68_148 : decode prog_10_method_8_code 148 = .ok (.iconst 0, 1) := by decide +kernel
theorem d68_149 : decode prog_10_method_8_code 149 = .ok (.istore 6, 2) := by decide +kernel
theorem d68_151 : decode prog_10_method_8_code 151 = .ok (.iload_n 1, 1) := by decide +kernel
theorem d68_152 : decode prog_10_method_8_code 152 = .ok (.bipush 15, 2) := by decide +kernel
theorem d68_154 : decode prog_10_method_8_code 154 = .ok (.if_icmp .ne 48, 3) := by decide +kernel
theorem d68_157 : decode prog_10_method_8_code 157 = .ok (.iload_n 2, 1) := by decide +kernel
theorem d68_158 : decode prog_10_method_8_code 158 = .ok (.ifCond .lt 41, 3) := by decide +kernel
theorem d68_161 : decode prog_10_method_8_code 161 = .ok (.iload_n 2, 1) := by decide +kernel
theorem d68_162 : decode prog_10_method_8_code 162 = .ok (.bipush 8, 2) := by decide +kernel
theorem d68_164 : decode prog_10_method_8_code 164 = .ok (.if_icmp .ge 35, 3) := by decide +kernel
theorem d68_167 : decode prog_10_method_8_code 167 = .ok (.iload_n 3, 1) := by decide +kernel
theorem d68_168 : decode prog_10_method_8_code 168 = .ok (.iconst (-1), 1) := by decide +kernel
theorem d68_169 : decode prog_10_method_8_code 169 = .ok (.if_icmp .eq 11, 3) := by decide +kernel
theorem d68_172 : decode prog_10_method_8_code 172 = .ok (.aload_n 0, 1) := by decide +kernel
theorem d68_173 : decode prog_10_method_8_code 173 = .ok (.iload_n 3, 1) := by decide +kernel
theorem d68_174 : decode prog_10_method_8_code 174 = .ok (.invokevirtual 136, 3) := by decide +kernel
theorem d68_177 : decode prog_10_method_8_code 177 = .ok (.ifCond .eq 22, 3) := by decide +kernel
theorem d68_180 : decode prog_10_method_8_code 180 = .ok (.iload 4, 2) := by decide +kernel
theorem d68_182 : decode prog_10_method_8_code 182 = .ok (.iconst (-1), 1) := by decide +kernel
theorem d68_183 : decode prog_10_method_8_code 183 = .ok (.if_icmp .eq 12, 3) := by decide +kernel
theorem d68_186 : decode prog_10_method_8_code 186 = .ok (.aload_n 0, 1) := by decide +kernel
theorem d68_187 : decode prog_10_method_8_code 187 = .ok (.iload 4, 2) := by decide +kernel
theorem d68_189 : decode prog_10_method_8_code 189 = .ok (.invokevirtual 136, 3) := by decide +kernel
theorem d68_192 : decode prog_10_method_8_code 192 = .ok (.ifCond .eq 7, 3) := by decide +kernel
theorem d68_195 : decode prog_10_method_8_code 195 = .ok (.iconst 1, 1) := by decide +kernel
theorem d68_196 : decode prog_10_method_8_code 196 = .ok (.goto 4, 3) := by decide +kernel
theorem d68_199 : decode prog_10_method_8_code 199 = .ok (.iconst 0, 1) := by decide +kernel
theorem d68_200 : decode prog_10_method_8_code 200 = .ok (.istore 6, 2) := by decide +kernel
theorem d68_202 : decode prog_10_method_8_code 202 = .ok (.iload_n 1, 1) := by decide +kernel
theorem d68_203 : decode prog_10_method_8_code 203 = .ok (.bipush 16, 2) := by decide +kernel
theorem d68_205 : decode prog_10_method_8_code 205 = .ok (.if_icmp .ne 10, 3) := by decide +kernel
theorem d68_208 : decode prog_10_method_8_code 208 = .ok (.aload_n 0, 1) := by decide +kernel
theorem d68_209 : decode prog_10_method_8_code 209 = .ok (.iload_n 2, 1) := by decide +kernel
theorem d68_210 : decode prog_10_method_8_code 210 = .ok (.invokevirtual 136, 3) := by decide +kernel
theorem d68_213 : decode prog_10_method_8_code 213 = .ok (.istore 6, 2) := by decide +kernel
theorem d68_215 : decode prog_10_method_8_code 215 = .ok (.iload 6, 2) := by decide +kernel
theorem d68_217 : decode prog_10_method_8_code 217 = .ok (.ifCond .eq 12, 3) := by decide +kernel
theorem d68_220 : decode prog_10_method_8_code 220 = .ok (.aload_n 0, 1) := by decide +kernel
theorem d68_221 : decode prog_10_method_8_code 221 = .ok (.getfield 7, 3) := by decide +kernel
theorem d68_224 : decode prog_10_method_8_code 224 = .ok (.bipush 60, 2) := by decide +kernel
theorem d68_226 : decode prog_10_method_8_code 226 = .ok (.if_icmp .ne 5, 3) := by decide +kernel
theorem d68_229 : decode prog_10_method_8_code 229 = .ok (.iconst (-1), 1) := by decide +kernel
theorem d68_230 : decode prog_10_method_8_code 230 = .ok (.ireturn, 1) := by decide +kernel
theorem d68_231 : decode prog_10_method_8_code 231 = .ok (.iload_n 1, 1) := by decide +kernel
theorem d68_232 : decode prog_10_method_8_code 232 = .ok (.iconst 2, 1) := by decide +kernel
theorem d68_233 : decode prog_10_method_8_code 233 = .ok (.if_icmp .ge 7, 3) := by decide +kernel
theorem d68_236 : decode prog_10_method_8_code 236 = .ok (.iconst 1, 1) := by decide +kernel
theorem d68_237 : decode prog_10_method_8_code 237 = .ok (.goto 59, 3) := by decide +kernel
theorem d68_240 : decode prog_10_method_8_code 240 = .ok (.iload 5, 2) := by decide +kernel
theorem d68_242 : decode prog_10_method_8_code 242 = .ok (.ifCond .eq 13, 3) := by decide +kernel
theorem d68_245 : decode prog_10_method_8_code 245 = .ok (.aload_n 0, 1) := by decide +kernel
theorem d68_246 : decode prog_10_method_8_code 246 = .ok (.iload_n 2, 1) := by decide +kernel
theorem d68_247 : decode prog_10_method_8_code 247 = .ok (.iload_n 3, 1) := by decide +kernel
theorem d68_248 : decode prog_10_method_8_code 248 = .ok (.iconst (-1), 1) := by decide +kernel
theorem d68_249 : decode prog_10_method_8_code 249 = .ok (.invokevirtual 139, 3) := by decide +kernel
theorem d68_252 : decode prog_10_method_8_code 252 = .ok (.goto 44, 3) := by decide +kernel
theorem d68_255 : decode prog_10_method_8_code 255 = .ok (.iload_n 1, 1) := by decide +kernel
theorem d68_256 : decode prog_10_method_8_code 256 = .ok (.bipush 13, 2) := by decide +kernel
theorem d68_258 : decode prog_10_method_8_code 258 = .ok (.if_icmp .ne 14, 3) := by decide +kernel
theorem d68_261 : decode prog_10_method_8_code 261 = .ok (.aload_n 0, 1) := by decide +kernel
theorem d68_262 : decode prog_10_method_8_code 262 = .ok (.iload_n 2, 1) := by decide +kernel
theorem d68_263 : decode prog_10_method_8_code 263 = .ok (.iload_n 3, 1) := by decide +kernel
theorem d68_264 : decode prog_10_method_8_code 264 = .ok (.iload 4, 2) := by decide +kernel
theorem d68_266 : decode prog_10_method_8_code 266 = .ok (.invokevirtual 139, 3) := by decide +kernel
theorem d68_269 : decode prog_10_method_8_code 269 = .ok (.goto 27, 3) := by decide +kernel
theorem d68_272 : decode prog_10_method_8_code 272 = .ok (.iload_n 1, 1) := by decide +kernel
theorem d68_273 : decode prog_10_method_8_code 273 = .ok (.bipush 15, 2) := by decide +kernel
theorem d68_275 : decode prog_10_method_8_code 275 = .ok (.if_icmp .ne 14, 3) := by decide +kernel
theorem d68_278 : decode prog_10_method_8_code 278 = .ok (.aload_n 0, 1) := by decide +kernel
theorem d68_279 : decode prog_10_method_8_code 279 = .ok (.iload_n 3, 1) := by decide +kernel
theorem d68_280 : decode prog_10_method_8_code 280 = .ok (.iload 4, 2) := by decide +kernel
theorem d68_282 : decode prog_10_method_8_code 282 = .ok (.iconst (-1), 1) := by decide +kernel
theorem d68_283 : decode prog_10_method_8_code 283 = .ok (.invokevirtual 139, 3) := by decide +kernel
theorem d68_286 : decode prog_10_method_8_code 286 = .ok (.goto 10, 3) := by decide +kernel
theorem d68_289 : decode prog_10_method_8_code 289 = .ok (.aload_n 0, 1) := by decide +kernel
theorem d68_290 : decode prog_10_method_8_code 290 = .ok (.iload_n 2, 1) := by decide +kernel
theorem d68_291 : decode prog_10_method_8_code 291 = .ok (.iconst (-1), 1) := by decide +kernel
theorem d68_292 : decode prog_10_method_8_code 292 = .ok (.iconst (-1), 1) := by decide +kernel
theorem d68_293 : decode prog_10_method_8_code 293 = .ok (.invokevirtual 139, 3) := by decide +kernel
theorem d68_296 : decode prog_10_method_8_code 296 = .ok (.istore 7, 2) := by decide +kernel
theorem d68_298 : decode prog_10_method_8_code 298 = .ok (.iload 7, 2) := by decide +kernel
theorem d68_300 : decode prog_10_method_8_code 300 = .ok (.bipush 8, 2) := by decide +kernel
theorem d68_302 : decode prog_10_method_8_code 302 = .ok (.if_icmp .le 5, 3) := by decide +kernel
theorem d68_305 : decode prog_10_method_8_code 305 = .ok (.iconst (-1), 1) := by decide +kernel
theorem d68_306 : decode prog_10_method_8_code 306 = .ok (.ireturn, 1) := by decide +kernel
theorem d68_307 : decode prog_10_method_8_code 307 = .ok (.aload_n 0, 1) := by decide +kernel
theorem d68_308 : decode prog_10_method_8_code 308 = .ok (.getfield 25, 3) := by decide +kernel
theorem d68_311 : decode prog_10_method_8_code 311 = .ok (.aload_n 0, 1) := by decide +kernel
theorem d68_312 : decode prog_10_method_8_code 312 = .ok (.getfield 7, 3) := by decide +kernel
theorem d68_315 : decode prog_10_method_8_code 315 = .ok (.iload_n 1, 1) := by decide +kernel
theorem d68_316 : decode prog_10_method_8_code 316 = .ok (.iastore, 1) := by decide +kernel
theorem d68_317 : decode prog_10_method_8_code 317 = .ok (.aload_n 0, 1) := by decide +kernel
theorem d68_318 : decode prog_10_method_8_code 318 = .ok (.getfield 29, 3) := by decide +kernel
theorem d68_321 : decode prog_10_method_8_code 321 = .ok (.aload_n 0, 1) := by decide +kernel
theorem d68_322 : decode prog_10_method_8_code 322 = .ok (.getfield 7, 3) := by decide +kernel
theorem d68_325 : decode prog_10_method_8_code 325 = .ok (.iload_n 2, 1) := by decide +kernel
theorem d68_326 : decode prog_10_method_8_code 326 = .ok (.iastore, 1) := by decide +kernel
theorem d68_327 : decode prog_10_method_8_code 327 = .ok (.aload_n 0, 1) := by decide +kernel
theorem d68_328 : decode prog_10_method_8_code 328 = .ok (.getfield 32, 3) := by decide +kernel
theorem d68_331 : decode prog_10_method_8_code 331 = .ok (.aload_n 0, 1) := by decide +kernel
theorem d68_332 : decode prog_10_method_8_code 332 = .ok (.getfield 7, 3) := by decide +kernel
theorem d68_335 : decode prog_10_method_8_code 335 = .ok (.iload_n 3, 1) := by decide +kernel
theorem d68_336 : decode prog_10_method_8_code 336 = .ok (.iastore, 1) := by decide +kernel
theorem d68_337 : decode prog_10_method_8_code 337 = .ok (.aload_n 0, 1) := by decide +kernel
theorem d68_338 : decode prog_10_method_8_code 338 = .ok (.getfield 35, 3) := by decide +kernel
theorem d68_341 : decode prog_10_method_8_code 341 = .ok (.aload_n 0, 1) := by decide +kernel
theorem d68_342 : decode prog_10_method_8_code 342 = .ok (.getfield 7, 3) := by decide +kernel
theorem d68_345 : decode prog_10_method_8_code 345 = .ok (.iload 4, 2) := by decide +kernel
theorem d68_347 : decode prog_10_method_8_code 347 = .ok (.iastore, 1) := by decide +kernel
theorem d68_348 : decode prog_10_method_8_code 348 = .ok (.aload_n 0, 1) := by decide +kernel
theorem d68_349 : decode prog_10_method_8_code 349 = .ok (.getfield 38, 3) := by decide +kernel
theorem d68_352 : decode prog_10_method_8_code 352 = .ok (.aload_n 0, 1) := by decide +kernel
theorem d68_353 : decode prog_10_method_8_code 353 = .ok (.getfield 7, 3) := by decide +kernel
theorem d68_356 : decode prog_10_method_8_code 356 = .ok (.iload 7, 2) := by decide +kernel
theorem d68_358 : decode prog_10_method_8_code 358 = .ok (.iastore, 1) := by decide +kernel
theorem d68_359 : decode prog_10_method_8_code 359 = .ok (.aload_n 0, 1) := by decide +kernel
theorem d68_360 : decode prog_10_method_8_code 360 = .ok (.dup, 1) := by decide +kernel
theorem d68_361 : decode prog_10_method_8_code 361 = .ok (.getfield 7, 3) := by decide +kernel
theorem d68_364 : decode prog_10_method_8_code 364 = .ok (.iconst 1, 1) := by decide +kernel
theorem d68_365 : decode prog_10_method_8_code 365 = .ok (.iadd, 1) := by decide +kernel
theorem d68_366 : decode prog_10_method_8_code 366 = .ok (.putfield 7, 3) := by decide +kernel
theorem d68_369 : decode prog_10_method_8_code 369 = .ok (.aload_n 0, 1) := by decide +kernel
theorem d68_370 : decode prog_10_method_8_code 370 = .ok (.getfield 7, 3) := by decide +kernel
theorem d68_373 : decode prog_10_method_8_code 373 = .ok (.iconst 1, 1) := by decide +kernel
theorem d68_374 : decode prog_10_method_8_code 374 = .ok (.isub, 1) := by decide +kernel
theorem d68_375 : decode prog_10_method_8_code 375 = .ok (.ireturn, 1) := by decide +kernel
theorem d69_0 : decode prog_10_method_9_code 0 = .ok (.iload_n 1, 1) := by decide +kernel
theorem d69_1 : decode prog_10_method_9_code 1 = .ok (.ifCond .lt 34, 3) := by decide +kernel
theorem d69_4 : decode prog_10_method_9_code 4 = .ok (.iload_n 1, 1) := by decide +kernel
theorem d69_5 : decode prog_10_method_9_code 5 = .ok (.bipush 7, 2) := by decide +kernel
theorem d69_7 : decode prog_10_method_9_code 7 = .ok (.if_icmp .gt 28, 3) := by decide +kernel
theorem d69_10 : decode prog_10_method_9_code 10 = .ok (.aload_n 0, 1) := by decide +kernel
theorem d69_11 : decode prog_10_method_9_code 11 = .ok (.getfield 41, 3) := by decide +kernel
theorem d69_14 : decode prog_10_method_9_code 14 = .ok (.iload_n 1, 1) := by decide +kernel
theorem d69_15 : decode prog_10_method_9_code 15 = .ok (.baload, 1) := by decide +kernel
theorem d69_16 : decode prog_10_method_9_code 16 = .ok (.ifCond .ne 19, 3) := by decide +kernel
theorem d69_19 : decode prog_10_method_9_code 19 = .ok (.aload_n 0, 1) := by decide +kernel
theorem d69_20 : decode prog_10_method_9_code 20 = .ok (.iload_n 2, 1) := by decide +kernel
theorem d69_21 : decode prog_10_method_9_code 21 = .ok (.invokevirtual 143, 3) := by decide +kernel
theorem d69_24 : decode prog_10_method_9_code 24 = .ok (.ifCond .eq 11, 3) := by decide +kernel
theorem d69_27 : decode prog_10_method_9_code 27 = .ok (.aload_n 0, 1) := by decide +kernel
theorem d69_28 : decode prog_10_method_9_code 28 = .ok (.iload_n 3, 1) := by decide +kernel
theorem d69_29 : decode prog_10_method_9_code 29 = .ok (.invokevirtual 143, 3) := by decide +kernel
theorem d69_32 : decode prog_10_method_9_code 32 = .ok (.ifCond .ne 5, 3) := by decide +kernel
theorem d69_35 : decode prog_10_method_9_code 35 = .ok (.iconst (-1), 1) := by decide +kernel
theorem d69_36 : decode prog_10_method_9_code 36 = .ok (.ireturn, 1) := by decide +kernel
theorem d69_37 : decode prog_10_method_9_code 37 = .ok (.aload_n 0, 1) := by decide +kernel
theorem d69_38 : decode prog_10_method_9_code 38 = .ok (.iload 4, 2) := by decide +kernel
theorem d69_40 : decode prog_10_method_9_code 40 = .ok (.invokevirtual 143, 3) := by decide +kernel
theorem d69_43 : decode prog_10_method_9_code 43 = .ok (.ifCond .eq 20, 3) := by decide +kernel
theorem d69_46 : decode prog_10_method_9_code 46 = .ok (.iload 4, 2) := by decide +kernel
theorem d69_48 : decode prog_10_method_9_code 48 = .ok (.sipush 299, 3) := by decide +kernel
theorem d69_51 : decode prog_10_method_9_code 51 = .ok (.if_icmp .gt 12, 3) := by decide +kernel
theorem d69_54 : decode prog_10_method_9_code 54 = .ok (.aload_n 0, 1) := by decide +kernel
theorem d69_55 : decode prog_10_method_9_code 55 = .ok (.iload 5, 2) := by decide +kernel
theorem d69_57 : decode prog_10_method_9_code 57 = .ok (.invokevirtual 136, 3) := by decide +kernel
theorem d69_60 : decode prog_10_method_9_code 60 = .ok (.ifCond .ne 5, 3) := by decide +kernel
theorem d69_63 : decode prog_10_method_9_code 63 = .ok (.iconst (-1), 1) := by decide +kernel
theorem d69_64 : decode prog_10_method_9_code 64 = .ok (.ireturn, 1) := by decide +kernel
theorem d69_65 : decode prog_10_method_9_code 65 = .ok (.aload_n 0, 1) := by decide +kernel
theorem d69_66 : decode prog_10_method_9_code 66 = .ok (.getfield 41, 3) := by decide +kernel
theorem d69_69 : decode prog_10_method_9_code 69 = .ok (.iload_n 1, 1) := by decide +kernel
theorem d69_70 : decode prog_10_method_9_code 70 = .ok (.iconst 1, 1) := by decide +kernel
theorem d69_71 : decode prog_10_method_9_code 71 = .ok (.bastore, 1) := by decide +kernel
theorem d69_72 : decode prog_10_method_9_code 72 = .ok (.aload_n 0, 1) := by decide +kernel
theorem d69_73 : decode prog_10_method_9_code 73 = .ok (.getfield 45, 3) := by decide +kernel
theorem d69_76 : decode prog_10_method_9_code 76 = .ok (.iload_n 1, 1) := by decide +kernel
theorem d69_77 : decode prog_10_method_9_code 77 = .ok (.iload_n 2, 1) := by decide +kernel
theorem d69_78 : decode prog_10_method_9_code 78 = .ok (.iastore, 1) := by decide +kernel
theorem d69_79 : decode prog_10_method_9_code 79 = .ok (.aload_n 0, 1) := by decide +kernel
theorem d69_80 : decode prog_10_method_9_code 80 = .ok (.getfield 48, 3) := by decide +kernel
theorem d69_83 : decode prog_10_method_9_code 83 = .ok (.iload_n 1, 1) := by decide +kernel
theorem d69_84 : decode prog_10_method_9_code 84 = .ok (.iload_n 3, 1) := by decide +kernel
theorem d69_85 : decode prog_10_method_9_code 85 = .ok (.iastore, 1) := by decide +kernel
theorem d69_86 : decode prog_10_method_9_code 86 = .ok (.aload_n 0, 1) := by decide +kernel
theorem d69_87 : decode prog_10_method_9_code 87 = .ok (.getfield 51, 3) := by decide +kernel
theorem d69_90 : decode prog_10_method_9_code 90 = .ok (.iload_n 1, 1) := by decide +kernel
theorem d69_91 : decode prog_10_method_9_code 91 = .ok (.iload 4, 2) := by decide +kernel
theorem d69_93 : decode prog_10_method_9_code 93 = .ok (.iastore, 1) := by decide +kernel
theorem d69_94 : decode prog_10_method_9_code 94 = .ok (.aload_n 0, 1) := by decide +kernel
theorem d69_95 : decode prog_10_method_9_code 95 = .ok (.getfield 54, 3) := by decide +kernel
theorem d69_98 : decode prog_10_method_9_code 98 = .ok (.iload_n 1, 1) := by decide +kernel
theorem d69_99 : decode prog_10_method_9_code 99 = .ok (.iload 5, 2) := by decide +kernel
theorem d69_101 : decode prog_10_method_9_code 101 = .ok (.iastore, 1) := by decide +kernel
theorem d69_102 : decode prog_10_method_9_code 102 = .ok (.iconst 0, 1) := by decide +kernel
theorem d69_103 : decode prog_10_method_9_code 103 = .ok (.ireturn, 1) := by decide +kernel
theorem d70_0 : decode prog_10_method_10_code 0 = .ok (.iload_n 2, 1) := by decide +kernel
theorem d70_1 : decode prog_10_method_10_code 1 = .ok (.bipush 100, 2) := by decide +kernel
theorem d70_3 : decode prog_10_method_10_code 3 = .ok (.if_icmp .lt 10, 3) := by decide +kernel
theorem d70_6 : decode prog_10_method_10_code 6 = .ok (.iload_n 2, 1) := by decide +kernel
theorem d70_7 : decode prog_10_method_10_code 7 = .ok (.sipush 299, 3) := by decide +kernel
theorem d70_10 : decode prog_10_method_10_code 10 = .ok (.if_icmp .le 5, 3) := by decide +kernel
theorem d70_13 : decode prog_10_method_10_code 13 = .ok (.iload_n 2, 1) := by decide +kernel
theorem d70_14 : decode prog_10_method_10_code 14 = .ok (.ireturn, 1) := by decide +kernel
theorem d70_15 : decode prog_10_method_10_code 15 = .ok (.iload_n 2, 1) := by decide +kernel
theorem d70_16 : decode prog_10_method_10_code 16 = .ok (.bipush 100, 2) := by decide +kernel
theorem d70_18 : decode prog_10_method_10_code 18 = .ok (.irem, 1) := by decide +kernel
theorem d70_19 : decode prog_10_method_10_code 19 = .ok (.istore_n 3, 1) := by decide +kernel
theorem d70_20 : decode prog_10_method_10_code 20 = .ok (.iload_n 3, 1) := by decide +kernel
theorem d70_21 : decode prog_10_method_10_code 21 = .ok (.ifCond .ne 17, 3) := by decide +kernel
theorem d70_24 : decode prog_10_method_10_code 24 = .ok (.aload_n 0, 1) := by decide +kernel
theorem d70_25 : decode prog_10_method_10_code 25 = .ok (.getfield 45, 3) := by decide +kernel
theorem d70_28 : decode prog_10_method_10_code 28 = .ok (.aload_n 0, 1) := by decide +kernel
theorem d70_29 : decode prog_10_method_10_code 29 = .ok (.getfield 57, 3) := by decide +kernel
theorem d70_32 : decode prog_10_method_10_code 32 = .ok (.iload_n 1, 1) := by decide +kernel
theorem d70_33 : decode prog_10_method_10_code 33 = .ok (.iaload, 1) := by decide +kernel
theorem d70_34 : decode prog_10_method_10_code 34 = .ok (.iaload, 1) := by decide +kernel
theorem d70_35 : decode prog_10_method_10_code 35 = .ok (.goto 14, 3) := by decide +kernel
theorem d70_38 : decode prog_10_method_10_code 38 = .ok (.aload_n 0, 1) := by decide +kernel
theorem d70_39 : decode prog_10_method_10_code 39 = .ok (.getfield 48, 3) := by decide +kernel
theorem d70_42 : decode prog_10_method_10_code 42 = .ok (.aload_n 0, 1) := by decide +kernel
theorem d70_43 : decode prog_10_method_10_code 43 = .ok (.getfield 57, 3) := by decide +kernel
theorem d70_46 : decode prog_10_method_10_code 46 = .ok (.iload_n 1, 1) := by decide +kernel
theorem d70_47 : decode prog_10_method_10_code 47 = .ok (.iaload, 1) := by decide +kernel
theorem d70_48 : decode prog_10_method_10_code 48 = .ok (.iaload, 1) := by decide +kernel
theorem d70_49 : decode prog_10_method_10_code 49 = .ok (.sipush 300, 3) := by decide +kernel
theorem d70_52 : decode prog_10_method_10_code 52 = .ok (.if_icmp .eq 7, 3) := by decide +kernel
theorem d70_55 : decode prog_10_method_10_code 55 = .ok (.sipush 500, 3) := by decide +kernel
theorem d70_58 : decode prog_10_method_10_code 58 = .ok (.ireturn, 1) := by decide +kernel
theorem d70_59 : decode prog_10_method_10_code 59 = .ok (.iload_n 3, 1) := by decide +kernel
theorem d70_60 : decode prog_10_method_10_code 60 = .ok (.ifCond .ne 12, 3) := by decide +kernel
theorem d70_63 : decode prog_10_method_10_code 63 = .ok (.aload_n 0, 1) := by decide +kernel
theorem d70_64 : decode prog_10_method_10_code 64 = .ok (.getfield 119, 3) := by decide +kernel
theorem d70_67 : decode prog_10_method_10_code 67 = .ok (.iload_n 1, 1) := by decide +kernel
theorem d70_68 : decode prog_10_method_10_code 68 = .ok (.laload, 1) := by decide +kernel
theorem d70_69 : decode prog_10_method_10_code 69 = .ok (.goto 9, 3) := by decide +kernel
theorem d70_72 : decode prog_10_method_10_code 72 = .ok (.aload_n 0, 1) := by decide +kernel
theorem d70_73 : decode prog_10_method_10_code 73 = .ok (.getfield 122, 3) := by decide +kernel
theorem d70_76 : decode prog_10_method_10_code 76 = .ok (.iload_n 1, 1) := by decide +kernel
theorem d70_77 : decode prog_10_method_10_code 77 = .ok (.laload, 1) := by decide +kernel
theorem d70_78 : decode prog_10_method_10_code 78 = .ok (.lstore 4, 2) := by decide +kernel
theorem d70_80 : decode prog_10_method_10_code 80 = .ok (.lload 4, 2) := by decide +kernel
theorem d70_82 : decode prog_10_method_10_code 82 = .ok (.ldc2_w 146, 3) := by decide +kernel
theorem d70_85 : decode prog_10_method_10_code 85 = .ok (.lcmp, 1) := by decide +kernel
theorem d70_86 : decode prog_10_method_10_code 86 = .ok (.ifCond .gt 10, 3) := by decide +kernel
theorem d70_89 : decode prog_10_method_10_code 89 = .ok (.lload 4, 2) := by decide +kernel
theorem d70_91 : decode prog_10_method_10_code 91 = .ok (.lconst 1, 1) := by decide +kernel
theorem d70_92 : decode prog_10_method_10_code 92 = .ok (.lcmp, 1) := by decide +kernel
theorem d70_93 : decode prog_10_method_10_code 93 = .ok (.ifCond .ge 7, 3) := by decide +kernel
theorem d70_96 : decode prog_10_method_10_code 96 = .ok (.iconst 0, 1) := by decide +kernel
theorem d70_97 : decode prog_10_method_10_code 97 = .ok (.goto 6, 3) := by decide +kernel
theorem d70_100 : decode prog_10_method_10_code 100 = .ok (.lload 4, 2) := by decide +kernel
theorem d70_102 : decode prog_10_method_10_code 102 = .ok (.l2i, 1) := by decide +kernel
theorem d70_103 : decode prog_10_method_10_code 103 = .ok (.istore 6, 2) := by decide +kernel
theorem d70_105 : decode prog_10_method_10_code 105 = .ok (.aload_n 0, 1) := by decide +kernel
theorem d70_106 : decode prog_10_method_10_code 106 = .ok (.iload 6, 2) := by decide +kernel
theorem d70_108 : decode prog_10_method_10_code 108 = .ok (.invokevirtual 125, 3) := by decide +kernel
theorem d70_111 : decode prog_10_method_10_code 111 = .ok (.ifCond .ne 7, 3) := by decide +kernel
theorem d70_114 : decode prog_10_method_10_code 114 = .ok (.sipush 500, 3) := by decide +kernel
theorem d70_117 : decode prog_10_method_10_code 117 = .ok (.ireturn, 1) := by decide +kernel
theorem d70_118 : decode prog_10_method_10_code 118 = .ok (.iload_n 2, 1) := by decide +kernel
theorem d70_119 : decode prog_10_method_10_code 119 = .ok (.sipush 200, 3) := by decide +kernel
theorem d70_122 : decode prog_10_method_10_code 122 = .ok (.if_icmp .ge 8, 3) := by decide +kernel
theorem d70_125 : decode prog_10_method_10_code 125 = .ok (.iload 6, 2) := by decide +kernel
theorem d70_127 : decode prog_10_method_10_code 127 = .ok (.goto 6, 3) := by decide +kernel
theorem d70_130 : decode prog_10_method_10_code 130 = .ok (.iload 6, 2) := by decide +kernel
theorem d70_132 : decode prog_10_method_10_code 132 = .ok (.ineg, 1) := by decide +kernel
theorem d70_133 : decode prog_10_method_10_code 133 = .ok (.ireturn, 1) := by decide +kernel
theorem d71_0 : decode prog_10_method_11_code 0 = .ok (.aload_n 0, 1) := by decide +kernel
theorem d71_1 : decode prog_10_method_11_code 1 = .ok (.iload_n 1, 1) := by decide +kernel
theorem d71_2 : decode prog_10_method_11_code 2 = .ok (.invokevirtual 125, 3) := by decide +kernel
theorem d71_5 : decode prog_10_method_11_code 5 = .ok (.ifCond .ne 12, 3) := by decide +kernel
theorem d71_8 : decode prog_10_method_11_code 8 = .ok (.aload_n 0, 1) := by decide +kernel
theorem d71_9 : decode prog_10_method_11_code 9 = .ok (.iload_n 1, 1) := by decide +kernel
theorem d71_10 : decode prog_10_method_11_code 10 = .ok (.ineg, 1) := by decide +kernel
theorem d71_11 : decode prog_10_method_11_code 11 = .ok (.invokevirtual 125, 3) := by decide +kernel
theorem d71_14 : decode prog_10_method_11_code 14 = .ok (.ifCond .eq 7, 3) := by decide +kernel
theorem d71_17 : decode prog_10_method_11_code 17 = .ok (.iconst 1, 1) := by decide +kernel
theorem d71_18 : decode prog_10_method_11_code 18 = .ok (.goto 4, 3) := by decide +kernel
theorem d71_21 : decode prog_10_method_11_code 21 = .ok (.iconst 0, 1) := by decide +kernel
theorem d71_22 : decode prog_10_method_11_code 22 = .ok (.ireturn, 1) := by decide +kernel
theorem d72_0 : decode prog_10_method_12_code 0 = .ok (.iload_n 1, 1) := by decide +kernel
theorem d72_1 : decode prog_10_method_12_code 1 = .ok (.sipush 300, 3) := by decide +kernel
theorem d72_4 : decode prog_10_method_12_code 4 = .ok (.if_icmp .ne 9, 3) := by decide +kernel
theorem d72_7 : decode prog_10_method_12_code 7 = .ok (.ldc2_w 148, 3) := by decide +kernel
theorem d72_10 : decode prog_10_method_12_code 10 = .ok (.goto 17, 3) := by decide +kernel
theorem d72_13 : decode prog_10_method_12_code 13 = .ok (.iload_n 1, 1) := by decide +kernel
theorem d72_14 : decode prog_10_method_12_code 14 = .ok (.ifCond .le 12, 3) := by decide +kernel
theorem d72_17 : decode prog_10_method_12_code 17 = .ok (.lconst 1, 1) := by decide +kernel
theorem d72_18 : decode prog_10_method_12_code 18 = .ok (.iload_n 1, 1) := by decide +kernel
theorem d72_19 : decode prog_10_method_12_code 19 = .ok (.iconst 1, 1) := by decide +kernel
theorem d72_20 : decode prog_10_method_12_code 20 = .ok (.isub, 1) := by decide +kernel
theorem d72_21 : decode prog_10_method_12_code 21 = .ok (.lshl, 1) := by decide +kernel
theorem d72_22 : decode prog_10_method_12_code 22 = .ok (.lneg, 1) := by decide +kernel
theorem d72_23 : decode prog_10_method_12_code 23 = .ok (.goto 4, 3) := by decide +kernel
theorem d72_26 : decode prog_10_method_12_code 26 = .ok (.lconst 0, 1) := by decide +kernel
theorem d72_27 : decode prog_10_method_12_code 27 = .ok (.lreturn, 1) := by decide +kernel
theorem d73_0 : decode prog_10_method_13_code 0 = .ok (.iload_n 1, 1) := by decide +kernel
theorem d73_1 : decode prog_10_method_13_code 1 = .ok (.sipush 300, 3) := by decide +kernel
theorem d73_4 : decode prog_10_method_13_code 4 = .ok (.if_icmp .ne 9, 3) := by decide +kernel
theorem d73_7 : decode prog_10_method_13_code 7 = .ok (.ldc2_w 150, 3) := by decide +kernel
theorem d73_10 : decode prog_10_method_13_code 10 = .ok (.goto 23, 3) := by decide +kernel
theorem d73_13 : decode prog_10_method_13_code 13 = .ok (.iload_n 1, 1) := by decide +kernel
theorem d73_14 : decode prog_10_method_13_code 14 = .ok (.ifCond .le 13, 3) := by decide +kernel
theorem d73_17 : decode prog_10_method_13_code 17 = .ok (.lconst 1, 1) := by decide +kernel
theorem d73_18 : decode prog_10_method_13_code 18 = .ok (.iload_n 1, 1) := by decide +kernel
theorem d73_19 : decode prog_10_method_13_code 19 = .ok (.iconst 1, 1) := by decide +kernel
theorem d73_20 : decode prog_10_method_13_code 20 = .ok (.isub, 1) := by decide +kernel
theorem d73_21 : decode prog_10_method_13_code 21 = .ok (.lshl, 1) := by decide +kernel
theorem d73_22 : decode prog_10_method_13_code 22 = .ok (.lconst 1, 1) := by decide +kernel
theorem d73_23 : decode prog_10_method_13_code 23 = .ok (.lsub, 1) := by decide +kernel
theorem d73_24 : decode prog_10_method_13_code 24 = .ok (.goto 9, 3) := by decide +kernel
theorem d73_27 : decode prog_10_method_13_code 27 = .ok (.lconst 1, 1) := by decide +kernel
theorem d73_28 : decode prog_10_method_13_code 28 = .ok (.iload_n 1, 1) := by decide +kernel
theorem d73_29 : decode prog_10_method_13_code 29 = .ok (.ineg, 1) := by decide +kernel
theorem d73_30 : decode prog_10_method_13_code 30 = .ok (.lshl, 1) := by decide +kernel
theorem d73_31 : decode prog_10_method_13_code 31 = .ok (.lconst 1, 1) := by decide +kernel
theorem d73_32 : decode prog_10_method_13_code 32 = .ok (.lsub, 1) := by decide +kernel
theorem d73_33 : decode prog_10_method_13_code 33 = .ok (.lreturn, 1) := by decide +kernel
theorem d74_0 : decode prog_10_method_14_code 0 = .ok (.lload_n 2, 1) := by decide +kernel
theorem d74_1 : decode prog_10_method_14_code 1 = .ok (.aload_n 0, 1) := by decide +kernel
theorem d74_2 : decode prog_10_method_14_code 2 = .ok (.iload_n 1, 1) := by decide +kernel
theorem d74_3 : decode prog_10_method_14_code 3 = .ok (.invokevirtual 152, 3) := by decide +kernel
theorem d74_6 : decode prog_10_method_14_code 6 = .ok (.lcmp, 1) := by decide +kernel
theorem d74_7 : decode prog_10_method_14_code 7 = .ok (.ifCond .lt 17, 3) := by decide +kernel
theorem d74_10 : decode prog_10_method_14_code 10 = .ok (.lload_n 2, 1) := by decide +kernel
theorem d74_11 : decode prog_10_method_14_code 11 = .ok (.aload_n 0, 1) := by decide +kernel
theorem d74_12 : decode prog_10_method_14_code 12 = .ok (.iload_n 1, 1) := by decide +kernel
theorem d74_13 : decode prog_10_method_14_code 13 = .ok (.invokevirtual 156, 3) := by decide +kernel
theorem d74_16 : decode prog_10_method_14_code 16 = .ok (.lcmp, 1) := by decide +kernel
theorem d74_17 : decode prog_10_method_14_code 17 = .ok (.ifCond .gt 7, 3) := by decide +kernel
theorem d74_20 : decode prog_10_method_14_code 20 = .ok (.iconst 1, 1) := by decide +kernel
theorem d74_21 : decode prog_10_method_14_code 21 = .ok (.goto 4, 3) := by decide +kernel
theorem d74_24 : decode prog_10_method_14_code 24 = .ok (.iconst 0, 1) := by decide +kernel
theorem d74_25 : decode prog_10_method_14_code 25 = .ok (.ireturn, 1) := by decide +kernel
theorem d75_0 : decode prog_10_method_15_code 0 = .ok (.aload_n 0, 1) := by decide +kernel
theorem d75_1 : decode prog_10_method_15_code 1 = .ok (.iload_n 1, 1) := by decide +kernel
theorem d75_2 : decode prog_10_method_15_code 2 = .ok (.putfield 13, 3) := by decide +kernel
theorem d75_5 : decode prog_10_method_15_code 5 = .ok (.aload_n 0, 1) := by decide +kernel
theorem d75_6 : decode prog_10_method_15_code 6 = .ok (.bipush 64, 2) := by decide +kernel
theorem d75_8 : decode prog_10_method_15_code 8 = .ok (.aload_n 0, 1) := by decide +kernel
theorem d75_9 : decode prog_10_method_15_code 9 = .ok (.getfield 57, 3) := by decide +kernel
theorem d75_12 : decode prog_10_method_15_code 12 = .ok (.iload_n 2, 1) := by decide +kernel
theorem d75_13 : decode prog_10_method_15_code 13 = .ok (.iaload, 1) := by decide +kernel
theorem d75_14 : decode prog_10_method_15_code 14 = .ok (.imul, 1) := by decide +kernel
theorem d75_15 : decode prog_10_method_15_code 15 = .ok (.iload_n 3, 1) := by decide +kernel
theorem d75_16 : decode prog_10_method_15_code 16 = .ok (.iadd, 1) := by decide +kernel
theorem d75_17 : decode prog_10_method_15_code 17 = .ok (.putfield 16, 3) := by decide +kernel
theorem d75_20 : decode prog_10_method_15_code 20 = .ok (.iconst (-1), 1) := by decide +kernel
theorem d75_21 : decode prog_10_method_15_code 21 = .ok (.ireturn, 1) := by decide +kernel
theorem d76_0 : decode prog_10_method_16_code 0 = .ok (.iload_n 2, 1) := by decide +kernel
theorem d76_1 : decode prog_10_method_16_code 1 = .ok (.ifCond .ne 12, 3) := by decide +kernel
theorem d76_4 : decode prog_10_method_16_code 4 = .ok (.aload_n 0, 1) := by decide +kernel
theorem d76_5 : decode prog_10_method_16_code 5 = .ok (.getfield 45, 3) := by decide +kernel
theorem d76_8 : decode prog_10_method_16_code 8 = .ok (.iload_n 1, 1) := by decide +kernel
theorem d76_9 : decode prog_10_method_16_code 9 = .ok (.iaload, 1) := by decide +kernel
theorem d76_10 : decode prog_10_method_16_code 10 = .ok (.goto 9, 3) := by decide +kernel
theorem d76_13 : decode prog_10_method_16_code 13 = .ok (.aload_n 0, 1) := by decide +kernel
theorem d76_14 : decode prog_10_method_16_code 14 = .ok (.getfield 48, 3) := by decide +kernel
theorem d76_17 : decode prog_10_method_16_code 17 = .ok (.iload_n 1, 1) := by decide +kernel
theorem d76_18 : decode prog_10_method_16_code 18 = .ok (.iaload, 1) := by decide +kernel
theorem d76_19 : decode prog_10_method_16_code 19 = .ok (.ireturn, 1) := by decide +kernel
theorem d77_0 : decode prog_10_method_17_code 0 = .ok (.aload_n 0, 1) := by decide +kernel
theorem d77_1 : decode prog_10_method_17_code 1 = .ok (.getfield 29, 3) := by decide +kernel
theorem d77_4 : decode prog_10_method_17_code 4 = .ok (.iload_n 1, 1) := by decide +kernel
theorem d77_5 : decode prog_10_method_17_code 5 = .ok (.iaload, 1) := by decide +kernel
theorem d77_6 : decode prog_10_method_17_code 6 = .ok (.istore_n 2, 1) := by decide +kernel
theorem d77_7 : decode prog_10_method_17_code 7 = .ok (.aload_n 0, 1) := by decide +kernel
theorem d77_8 : decode prog_10_method_17_code 8 = .ok (.getfield 41, 3) := by decide +kernel
theorem d77_11 : decode prog_10_method_17_code 11 = .ok (.iload_n 2, 1) := by decide +kernel
theorem d77_12 : decode prog_10_method_17_code 12 = .ok (.baload, 1) := by decide +kernel
theorem d77_13 : decode prog_10_method_17_code 13 = .ok (.ifCond .eq 71, 3) := by decide +kernel
theorem d77_16 : decode prog_10_method_17_code 16 = .ok (.aload_n 0, 1) := by decide +kernel
theorem d77_17 : decode prog_10_method_17_code 17 = .ok (.getfield 32, 3) := by decide +kernel
theorem d77_20 : decode prog_10_method_17_code 20 = .ok (.iload_n 1, 1) := by decide +kernel
theorem d77_21 : decode prog_10_method_17_code 21 = .ok (.iaload, 1) := by decide +kernel
theorem d77_22 : decode prog_10_method_17_code 22 = .ok (.ifCond .lt 7, 3) := by decide +kernel
theorem d77_25 : decode prog_10_method_17_code 25 = .ok (.iconst 1, 1) := by decide +kernel
theorem d77_26 : decode prog_10_method_17_code 26 = .ok (.goto 4, 3) := by decide +kernel
theorem d77_29 : decode prog_10_method_17_code 29 = .ok (.iconst 0, 1) := by decide +kernel
theorem d77_30 : decode prog_10_method_17_code 30 = .ok (.aload_n 0, 1) := by decide +kernel
theorem d77_31 : decode prog_10_method_17_code 31 = .ok (.getfield 45, 3) := by decide +kernel
theorem d77_34 : decode prog_10_method_17_code 34 = .ok (.iload_n 2, 1) := by decide +kernel
theorem d77_35 : decode prog_10_method_17_code 35 = .ok (.iaload, 1) := by decide +kernel
theorem d77_36 : decode prog_10_method_17_code 36 = .ok (.sipush 400, 3) := by decide +kernel
theorem d77_39 : decode prog_10_method_17_code 39 = .ok (.if_icmp .eq 7, 3) := by decide +kernel
theorem d77_42 : decode prog_10_method_17_code 42 = .ok (.iconst 1, 1) := by decide +kernel
theorem d77_43 : decode prog_10_method_17_code 43 = .ok (.goto 4, 3) := by decide +kernel
theorem d77_46 : decode prog_10_method_17_code 46 = .ok (.iconst 0, 1) := by decide +kernel
theorem d77_47 : decode prog_10_method_17_code 47 = .ok (.if_icmp .ne 37, 3) := by decide +kernel
theorem d77_50 : decode prog_10_method_17_code 50 = .ok (.aload_n 0, 1) := by decide +kernel
theorem d77_51 : decode prog_10_method_17_code 51 = .ok (.getfield 35, 3) := by decide +kernel
theorem d77_54 : decode prog_10_method_17_code 54 = .ok (.iload_n 1, 1) := by decide +kernel
theorem d77_55 : decode prog_10_method_17_code 55 = .ok (.iaload, 1) := by decide +kernel
theorem d77_56 : decode prog_10_method_17_code 56 = .ok (.ifCond .lt 7, 3) := by decide +kernel
theorem d77_59 : decode prog_10_method_17_code 59 = .ok (.iconst 1, 1) := by decide +kernel
theorem d77_60 : decode prog_10_method_17_code 60 = .ok (.goto 4, 3) := by decide +kernel
theorem d77_63 : decode prog_10_method_17_code 63 = .ok (.iconst 0, 1) := by decide +kernel
theorem d77_64 : decode prog_10_method_17_code 64 = .ok (.aload_n 0, 1) := by decide +kernel
theorem d77_65 : decode prog_10_method_17_code 65 = .ok (.getfield 48, 3) := by decide +kernel
theorem d77_68 : decode prog_10_method_17_code 68 = .ok (.iload_n 2, 1) := by decide +kernel
theorem d77_69 : decode prog_10_method_17_code 69 = .ok (.iaload, 1) := by decide +kernel
theorem d77_70 : decode prog_10_method_17_code 70 = .ok (.sipush 400, 3) := by decide +kernel
theorem d77_73 : decode prog_10_method_17_code 73 = .ok (.if_icmp .eq 7, 3) := by decide +kernel
theorem d77_76 : decode prog_10_method_17_code 76 = .ok (.iconst 1, 1) := by decide +kernel
theorem d77_77 : decode prog_10_method_17_code 77 = .ok (.goto 4, 3) := by decide +kernel
theorem d77_80 : decode prog_10_method_17_code 80 = .ok (.iconst 0, 1) := by decide +kernel
theorem d77_81 : decode prog_10_method_17_code 81 = .ok (.if_icmp .eq 7, 3) := by decide +kernel
theorem d77_84 : decode prog_10_method_17_code 84 = .ok (.iconst 1, 1) := by decide +kernel
theorem d77_85 : decode prog_10_method_17_code 85 = .ok (.goto 4, 3) := by decide +kernel
theorem d77_88 : decode prog_10_method_17_code 88 = .ok (.iconst 0, 1) := by decide +kernel
theorem d77_89 : decode prog_10_method_17_code 89 = .ok (.ireturn, 1) := by decide +kernel
theorem d78_0 : decode prog_10_method_18_code 0 = .ok (.aload_n 0, 1) := by decide +kernel
theorem d78_1 : decode prog_10_method_18_code 1 = .ok (.getfield 25, 3) := by decide +kernel
theorem d78_4 : decode prog_10_method_18_code 4 = .ok (.iload_n 2, 1) := by decide +kernel
theorem d78_5 : decode prog_10_method_18_code 5 = .ok (.iaload, 1) := by decide +kernel
theorem d78_6 : decode prog_10_method_18_code 6 = .ok (.istore_n 3, 1) := by decide +kernel
theorem d78_7 : decode prog_10_method_18_code 7 = .ok (.iload_n 1, 1) := by decide +kernel
theorem d78_8 : decode prog_10_method_18_code 8 = .ok (.bipush 60, 2) := by decide +kernel
theorem d78_10 : decode prog_10_method_18_code 10 = .ok (.imul, 1) := by decide +kernel
theorem d78_11 : decode prog_10_method_18_code 11 = .ok (.istore 4, 2) := by decide +kernel
theorem d78_13 : decode prog_10_method_18_code 13 = .ok (.iload_n 3, 1) := by decide +kernel
theorem d78_14 : decode prog_10_method_18_code 14 = .ok (.iconst 2, 1) := by decide +kernel
theorem d78_15 : decode prog_10_method_18_code 15 = .ok (.if_icmp .ge 5, 3) := by decide +kernel
theorem d78_18 : decode prog_10_method_18_code 18 = .ok (.iconst (-1), 1) := by decide +kernel
theorem d78_19 : decode prog_10_method_18_code 19 = .ok (.ireturn, 1) := by decide +kernel
theorem d78_20 : decode prog_10_method_18_code 20 = .ok (.iload_n 3, 1) := by decide +kernel
theorem d78_21 : decode prog_10_method_18_code 21 = .ok (.bipush 15, 2) := by decide +kernel
theorem d78_23 : decode prog_10_method_18_code 23 = .ok (.if_icmp .ne 90, 3) := by decide +kernel
theorem d78_26 : decode prog_10_method_18_code 26 = .ok (.aload_n 0, 1) := by decide +kernel
theorem d78_27 : decode prog_10_method_18_code 27 = .ok (.iload_n 2, 1) := by decide +kernel
theorem d78_28 : decode prog_10_method_18_code 28 = .ok (.invokevirtual 159, 3) := by decide +kernel
theorem d78_31 : decode prog_10_method_18_code 31 = .ok (.ifCond .eq 12, 3) := by decide +kernel
theorem d78_34 : decode prog_10_method_18_code 34 = .ok (.aload_n 0, 1) := by decide +kernel
theorem d78_35 : decode prog_10_method_18_code 35 = .ok (.bipush (-6), 2) := by decide +kernel
theorem d78_37 : decode prog_10_method_18_code 37 = .ok (.iload_n 1, 1) := by decide +kernel
theorem d78_38 : decode prog_10_method_18_code 38 = .ok (.iload_n 2, 1) := by decide +kernel
theorem d78_39 : decode prog_10_method_18_code 39 = .ok (.invokevirtual 162, 3) := by decide +kernel
theorem d78_42 : decode prog_10_method_18_code 42 = .ok (.ireturn, 1) := by decide +kernel
theorem d78_43 : decode prog_10_method_18_code 43 = .ok (.aload_n 0, 1) := by decide +kernel
theorem d78_44 : decode prog_10_method_18_code 44 = .ok (.getfield 32, 3) := by decide +kernel
theorem d78_47 : decode prog_10_method_18_code 47 = .ok (.iload_n 2, 1) := by decide +kernel
theorem d78_48 : decode prog_10_method_18_code 48 = .ok (.iaload, 1) := by decide +kernel
theorem d78_49 : decode prog_10_method_18_code 49 = .ok (.ifCond .lt 27, 3) := by decide +kernel
theorem d78_52 : decode prog_10_method_18_code 52 = .ok (.aload_n 0, 1) := by decide +kernel
theorem d78_53 : decode prog_10_method_18_code 53 = .ok (.getfield 66, 3) := by decide +kernel
theorem d78_56 : decode prog_10_method_18_code 56 = .ok (.iload 4, 2) := by decide +kernel
theorem d78_58 : decode prog_10_method_18_code 58 = .ok (.aload_n 0, 1) := by decide +kernel
theorem d78_59 : decode prog_10_method_18_code 59 = .ok (.getfield 32, 3) := by decide +kernel
theorem d78_62 : decode prog_10_method_18_code 62 = .ok (.iload_n 2, 1) := by decide +kernel
theorem d78_63 : decode prog_10_method_18_code 63 = .ok (.iaload, 1) := by decide +kernel
theorem d78_64 : decode prog_10_method_18_code 64 = .ok (.iadd, 1) := by decide +kernel
theorem d78_65 : decode prog_10_method_18_code 65 = .ok (.baload, 1) := by decide +kernel
theorem d78_66 : decode prog_10_method_18_code 66 = .ok (.ifCond .ne 10, 3) := by decide +kernel
theorem d78_69 : decode prog_10_method_18_code 69 = .ok (.aload_n 0, 1) := by decide +kernel
theorem d78_70 : decode prog_10_method_18_code 70 = .ok (.getfield 32, 3) := by decide +kernel
theorem d78_73 : decode prog_10_method_18_code 73 = .ok (.iload_n 2, 1) := by decide +kernel
theorem d78_74 : decode prog_10_method_18_code 74 = .ok (.iaload, 1) := by decide +kernel
theorem d78_75 : decode prog_10_method_18_code 75 = .ok (.ireturn, 1) := by decide +kernel
theorem d78_76 : decode prog_10_method_18_code 76 = .ok (.aload_n 0, 1) := by decide +kernel
theorem d78_77 : decode prog_10_method_18_code 77 = .ok (.getfield 35, 3) := by decide +kernel
theorem d78_80 : decode prog_10_method_18_code 80 = .ok (.iload_n 2, 1) := by decide +kernel
theorem d78_81 : decode prog_10_method_18_code 81 = .ok (.iaload, 1) := by decide +kernel
theorem d78_82 : decode prog_10_method_18_code 82 = .ok (.ifCond .lt 29, 3) := by decide +kernel
theorem d78_85 : decode prog_10_method_18_code 85 = .ok (.aload_n 0, 1) := by decide +kernel
theorem d78_86 : decode prog_10_method_18_code 86 = .ok (.getfield 66, 3) := by decide +kernel
theorem d78_89 : decode prog_10_method_18_code 89 = .ok (.iload 4, 2) := by decide +kernel
theorem d78_91 : decode prog_10_method_18_code 91 = .ok (.aload_n 0, 1) := by decide +kernel
theorem d78_92 : decode prog_10_method_18_code 92 = .ok (.getfield 35, 3) := by decide +kernel
theorem d78_95 : decode prog_10_method_18_code 95 = .ok (.iload_n 2, 1) := by decide +kernel
theorem d78_96 : decode prog_10_method_18_code 96 = .ok (.iaload, 1) := by decide +kernel
theorem d78_97 : decode prog_10_method_18_code 97 = .ok (.iadd, 1) := by decide +kernel
theorem d78_98 : decode prog_10_method_18_code 98 = .ok (.baload, 1) := by decide +kernel
theorem d78_99 : decode prog_10_method_18_code 99 = .ok (.ifCond .ne 12, 3) := by decide +kernel
theorem d78_102 : decode prog_10_method_18_code 102 = .ok (.aload_n 0, 1) := by decide +kernel
theorem d78_103 : decode prog_10_method_18_code 103 = .ok (.getfield 35, 3) := by decide +kernel
theorem d78_106 : decode prog_10_method_18_code 106 = .ok (.iload_n 2, 1) := by decide +kernel
theorem d78_107 : decode prog_10_method_18_code 107 = .ok (.iaload, 1) := by decide +kernel
theorem d78_108 : decode prog_10_method_18_code 108 = .ok (.goto 4, 3) := by decide +kernel
theorem d78_111 : decode prog_10_method_18_code 111 = .ok (.iconst (-1), 1) := by decide +kernel
theorem d78_112 : decode prog_10_method_18_code 112 = .ok (.ireturn, 1) := by decide +kernel
theorem d78_113 : decode prog_10_method_18_code 113 = .ok (.aload_n 0, 1) := by decide +kernel
theorem d78_114 : decode prog_10_method_18_code 114 = .ok (.getfield 66, 3) := by decide +kernel
theorem d78_117 : decode prog_10_method_18_code 117 = .ok (.iload 4, 2) := by decide +kernel
theorem d78_119 : decode prog_10_method_18_code 119 = .ok (.aload_n 0, 1) := by decide +kernel
theorem d78_120 : decode prog_10_method_18_code 120 = .ok (.getfield 29, 3) := by decide +kernel
theorem d78_123 : decode prog_10_method_18_code 123 = .ok (.iload_n 2, 1) := by decide +kernel
theorem d78_124 : decode prog_10_method_18_code 124 = .ok (.iaload, 1) := by decide +kernel
theorem d78_125 : decode prog_10_method_18_code 125 = .ok (.iadd, 1) := by decide +kernel
theorem d78_126 : decode prog_10_method_18_code 126 = .ok (.baload, 1) := by decide +kernel
theorem d78_127 : decode prog_10_method_18_code 127 = .ok (.ifCond .ne 10, 3) := by decide +kernel
theorem d78_130 : decode prog_10_method_18_code 130 = .ok (.aload_n 0, 1) := by decide +kernel
theorem d78_131 : decode prog_10_method_18_code 131 = .ok (.getfield 29, 3) := by decide +kernel
theorem d78_134 : decode prog_10_method_18_code 134 = .ok (.iload_n 2, 1) := by decide +kernel
theorem d78_135 : decode prog_10_method_18_code 135 = .ok (.iaload, 1) := by decide +kernel
theorem d78_136 : decode prog_10_method_18_code 136 = .ok (.ireturn, 1) := by decide +kernel
theorem d78_137 : decode prog_10_method_18_code 137 = .ok (.iload_n 3, 1) := by decide +kernel
theorem d78_138 : decode prog_10_method_18_code 138 = .ok (.bipush 14, 2) := by decide +kernel
theorem d78_140 : decode prog_10_method_18_code 140 = .ok (.if_icmp .eq 9, 3) := by decide +kernel
theorem d78_143 : decode prog_10_method_18_code 143 = .ok (.iload_n 3, 1) := by decide +kernel
theorem d78_144 : decode prog_10_method_18_code 144 = .ok (.bipush 16, 2) := by decide +kernel
theorem d78_146 : decode prog_10_method_18_code 146 = .ok (.if_icmp .ne 5, 3) := by decide +kernel
theorem d78_149 : decode prog_10_method_18_code 149 = .ok (.iconst (-1), 1) := by decide +kernel
theorem d78_150 : decode prog_10_method_18_code 150 = .ok (.ireturn, 1) := by decide +kernel
theorem d78_151 : decode prog_10_method_18_code 151 = .ok (.iload_n 3, 1) := by decide +kernel
theorem d78_152 : decode prog_10_method_18_code 152 = .ok (.bipush 13, 2) := by decide +kernel
theorem d78_154 : decode prog_10_method_18_code 154 = .ok (.if_icmp .ne 29, 3) := by decide +kernel
theorem d78_157 : decode prog_10_method_18_code 157 = .ok (.aload_n 0, 1) := by decide +kernel
theorem d78_158 : decode prog_10_method_18_code 158 = .ok (.getfield 72, 3) := by decide +kernel
theorem d78_161 : decode prog_10_method_18_code 161 = .ok (.iload 4, 2) := by decide +kernel
theorem d78_163 : decode prog_10_method_18_code 163 = .ok (.aload_n 0, 1) := by decide +kernel
theorem d78_164 : decode prog_10_method_18_code 164 = .ok (.getfield 29, 3) := by decide +kernel
theorem d78_167 : decode prog_10_method_18_code 167 = .ok (.iload_n 2, 1) := by decide +kernel
theorem d78_168 : decode prog_10_method_18_code 168 = .ok (.iaload, 1) := by decide +kernel
theorem d78_169 : decode prog_10_method_18_code 169 = .ok (.iadd, 1) := by decide +kernel
theorem d78_170 : decode prog_10_method_18_code 170 = .ok (.iaload, 1) := by decide +kernel
theorem d78_171 : decode prog_10_method_18_code 171 = .ok (.ifCond .eq 12, 3) := by decide +kernel
theorem d78_174 : decode prog_10_method_18_code 174 = .ok (.aload_n 0, 1) := by decide +kernel
theorem d78_175 : decode prog_10_method_18_code 175 = .ok (.bipush (-2), 2) := by decide +kernel
theorem d78_177 : decode prog_10_method_18_code 177 = .ok (.iload_n 1, 1) := by decide +kernel
theorem d78_178 : decode prog_10_method_18_code 178 = .ok (.iload_n 2, 1) := by decide +kernel
theorem d78_179 : decode prog_10_method_18_code 179 = .ok (.invokevirtual 162, 3) := by decide +kernel
theorem d78_182 : decode prog_10_method_18_code 182 = .ok (.ireturn, 1) := by decide +kernel
theorem d78_183 : decode prog_10_method_18_code 183 = .ok (.iload_n 3, 1) := by decide +kernel
theorem d78_184 : decode prog_10_method_18_code 184 = .ok (.bipush 13, 2) := by decide +kernel
theorem d78_186 : decode prog_10_method_18_code 186 = .ok (.if_icmp .ne 24, 3) := by decide +kernel
theorem d78_189 : decode prog_10_method_18_code 189 = .ok (.aload_n 0, 1) := by decide +kernel
theorem d78_190 : decode prog_10_method_18_code 190 = .ok (.getfield 69, 3) := by decide +kernel
theorem d78_193 : decode prog_10_method_18_code 193 = .ok (.iload 4, 2) := by decide +kernel
theorem d78_195 : decode prog_10_method_18_code 195 = .ok (.aload_n 0, 1) := by decide +kernel
theorem d78_196 : decode prog_10_method_18_code 196 = .ok (.getfield 29, 3) := by decide +kernel
theorem d78_199 : decode prog_10_method_18_code 199 = .ok (.iload_n 2, 1) := by decide +kernel
theorem d78_200 : decode prog_10_method_18_code 200 = .ok (.iaload, 1) := by decide +kernel
theorem d78_201 : decode prog_10_method_18_code 201 = .ok (.iadd, 1) := by decide +kernel
theorem d78_202 : decode prog_10_method_18_code 202 = .ok (.baload, 1) := by decide +kernel
theorem d78_203 : decode prog_10_method_18_code 203 = .ok (.ifCond .eq 7, 3) := by decide +kernel
theorem d78_206 : decode prog_10_method_18_code 206 = .ok (.iconst 1, 1) := by decide +kernel
theorem d78_207 : decode prog_10_method_18_code 207 = .ok (.goto 4, 3) := by decide +kernel
theorem d78_210 : decode prog_10_method_18_code 210 = .ok (.iconst 0, 1) := by decide +kernel
theorem d78_211 : decode prog_10_method_18_code 211 = .ok (.istore 5, 2) := by decide +kernel
theorem d78_213 : decode prog_10_method_18_code 213 = .ok (.iload 5, 2) := by decide +kernel
theorem d78_215 : decode prog_10_method_18_code 215 = .ok (.ifCond .eq 26, 3) := by decide +kernel
theorem d78_218 : decode prog_10_method_18_code 218 = .ok (.aload_n 0, 1) := by decide +kernel
theorem d78_219 : decode prog_10_method_18_code 219 = .ok (.getfield 78, 3) := by decide +kernel
theorem d78_222 : decode prog_10_method_18_code 222 = .ok (.iload 4, 2) := by decide +kernel
theorem d78_224 : decode prog_10_method_18_code 224 = .ok (.aload_n 0, 1) := by decide +kernel
theorem d78_225 : decode prog_10_method_18_code 225 = .ok (.getfield 29, 3) := by decide +kernel
theorem d78_228 : decode prog_10_method_18_code 228 = .ok (.iload_n 2, 1) := by decide +kernel
theorem d78_229 : decode prog_10_method_18_code 229 = .ok (.iaload, 1) := by decide +kernel
theorem d78_230 : decode prog_10_method_18_code 230 = .ok (.iadd, 1) := by decide +kernel
theorem d78_231 : decode prog_10_method_18_code 231 = .ok (.laload, 1) := by decide +kernel
theorem d78_232 : decode prog_10_method_18_code 232 = .ok (.lconst 1, 1) := by decide +kernel
theorem d78_233 : decode prog_10_method_18_code 233 = .ok (.lcmp, 1) := by decide +kernel
theorem d78_234 : decode prog_10_method_18_code 234 = .ok (.ifCond .ne 7, 3) := by decide +kernel
theorem d78_237 : decode prog_10_method_18_code 237 = .ok (.iconst 1, 1) := by decide +kernel
theorem d78_238 : decode prog_10_method_18_code 238 = .ok (.goto 4, 3) := by decide +kernel
theorem d78_241 : decode prog_10_method_18_code 241 = .ok (.iconst 0, 1) := by decide +kernel
theorem d78_242 : decode prog_10_method_18_code 242 = .ok (.istore 6, 2) := by decide +kernel
theorem d78_244 : decode prog_10_method_18_code 244 = .ok (.iload 5, 2) := by decide +kernel
theorem d78_246 : decode prog_10_method_18_code 246 = .ok (.ifCond .eq 8, 3) := by decide +kernel
theorem d78_249 : decode prog_10_method_18_code 249 = .ok (.iload 6, 2) := by decide +kernel
theorem d78_251 : decode prog_10_method_18_code 251 = .ok (.ifCond .eq 27, 3) := by decide +kernel
theorem d78_254 : decode prog_10_method_18_code 254 = .ok (.aload_n 0, 1) := by decide +kernel
theorem d78_255 : decode prog_10_method_18_code 255 = .ok (.getfield 66, 3) := by decide +kernel
theorem d78_258 : decode prog_10_method_18_code 258 = .ok (.iload 4, 2) := by decide +kernel
theorem d78_260 : decode prog_10_method_18_code 260 = .ok (.aload_n 0, 1) := by decide +kernel
theorem d78_261 : decode prog_10_method_18_code 261 = .ok (.getfield 32, 3) := by decide +kernel
theorem d78_264 : decode prog_10_method_18_code 264 = .ok (.iload_n 2, 1) := by decide +kernel
theorem d78_265 : decode prog_10_method_18_code 265 = .ok (.iaload, 1) := by decide +kernel
theorem d78_266 : decode prog_10_method_18_code 266 = .ok (.iadd, 1) := by decide +kernel
theorem d78_267 : decode prog_10_method_18_code 267 = .ok (.baload, 1) := by decide +kernel
theorem d78_268 : decode prog_10_method_18_code 268 = .ok (.ifCond .ne 10, 3) := by decide +kernel
theorem d78_271 : decode prog_10_method_18_code 271 = .ok (.aload_n 0, 1) := by decide +kernel
theorem d78_272 : decode prog_10_method_18_code 272 = .ok (.getfield 32, 3) := by decide +kernel
theorem d78_275 : decode prog_10_method_18_code 275 = .ok (.iload_n 2, 1) := by decide +kernel
theorem d78_276 : decode prog_10_method_18_code 276 = .ok (.iaload, 1) := by decide +kernel
theorem d78_277 : decode prog_10_method_18_code 277 = .ok (.ireturn, 1) := by decide +kernel
theorem d78_278 : decode prog_10_method_18_code 278 = .ok (.iload_n 3, 1) := by decide +kernel
theorem d78_279 : decode prog_10_method_18_code 279 = .ok (.bipush 13, 2) := by decide +kernel
theorem d78_281 : decode prog_10_method_18_code 281 = .ok (.if_icmp .ne 39, 3) := by decide +kernel
theorem d78_284 : decode prog_10_method_18_code 284 = .ok (.iload 5, 2) := by decide +kernel
theorem d78_286 : decode prog_10_method_18_code 286 = .ok (.ifCond .eq 8, 3) := by decide +kernel
theorem d78_289 : decode prog_10_method_18_code 289 = .ok (.iload 6, 2) := by decide +kernel
theorem d78_291 : decode prog_10_method_18_code 291 = .ok (.ifCond .ne 29, 3) := by decide +kernel
theorem d78_294 : decode prog_10_method_18_code 294 = .ok (.aload_n 0, 1) := by decide +kernel
theorem d78_295 : decode prog_10_method_18_code 295 = .ok (.getfield 66, 3) := by decide +kernel
theorem d78_298 : decode prog_10_method_18_code 298 = .ok (.iload 4, 2) := by decide +kernel
theorem d78_300 : decode prog_10_method_18_code 300 = .ok (.aload_n 0, 1) := by decide +kernel
theorem d78_301 : decode prog_10_method_18_code 301 = .ok (.getfield 35, 3) := by decide +kernel
theorem d78_304 : decode prog_10_method_18_code 304 = .ok (.iload_n 2, 1) := by decide +kernel
theorem d78_305 : decode prog_10_method_18_code 305 = .ok (.iaload, 1) := by decide +kernel
theorem d78_306 : decode prog_10_method_18_code 306 = .ok (.iadd, 1) := by decide +kernel
theorem d78_307 : decode prog_10_method_18_code 307 = .ok (.baload, 1) := by decide +kernel
theorem d78_308 : decode prog_10_method_18_code 308 = .ok (.ifCond .ne 12, 3) := by decide +kernel
theorem d78_311 : decode prog_10_method_18_code 311 = .ok (.aload_n 0, 1) := by decide +kernel
theorem d78_312 : decode prog_10_method_18_code 312 = .ok (.getfield 35, 3) := by decide +kernel
theorem d78_315 : decode prog_10_method_18_code 315 = .ok (.iload_n 2, 1) := by decide +kernel
theorem d78_316 : decode prog_10_method_18_code 316 = .ok (.iaload, 1) := by decide +kernel
theorem d78_317 : decode prog_10_method_18_code 317 = .ok (.goto 4, 3) := by decide +kernel
theorem d78_320 : decode prog_10_method_18_code 320 = .ok (.iconst (-1), 1) := by decide +kernel
theorem d78_321 : decode prog_10_method_18_code 321 = .ok (.ireturn, 1) := by decide +kernel

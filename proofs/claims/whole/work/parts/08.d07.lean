/-! decode rows, printed by a program of mine out of the listing -/
theorem d108_0 : decode prog_5_method_2_code 0 = .ok (.iload_n 0, 1) := by decide +kernel
theorem d108_1 : decode prog_5_method_2_code 1 = .ok (.ifCond .lt 13, 3) := by decide +kernel
theorem d108_4 : decode prog_5_method_2_code 4 = .ok (.iload_n 0, 1) := by decide +kernel
theorem d108_5 : decode prog_5_method_2_code 5 = .ok (.bipush 16, 2) := by decide +kernel
theorem d108_7 : decode prog_5_method_2_code 7 = .ok (.if_icmp .gt 7, 3) := by decide +kernel
theorem d108_10 : decode prog_5_method_2_code 10 = .ok (.iconst 1, 1) := by decide +kernel
theorem d108_11 : decode prog_5_method_2_code 11 = .ok (.goto 4, 3) := by decide +kernel
theorem d108_14 : decode prog_5_method_2_code 14 = .ok (.iconst 0, 1) := by decide +kernel
theorem d108_15 : decode prog_5_method_2_code 15 = .ok (.ireturn, 1) := by decide +kernel
theorem d109_0 : decode prog_5_method_3_code 0 = .ok (.iload_n 0, 1) := by decide +kernel
theorem d109_1 : decode prog_5_method_3_code 1 = .ok (.bipush 6, 2) := by decide +kernel
theorem d109_3 : decode prog_5_method_3_code 3 = .ok (.if_icmp .lt 13, 3) := by decide +kernel
theorem d109_6 : decode prog_5_method_3_code 6 = .ok (.iload_n 0, 1) := by decide +kernel
theorem d109_7 : decode prog_5_method_3_code 7 = .ok (.bipush 10, 2) := by decide +kernel
theorem d109_9 : decode prog_5_method_3_code 9 = .ok (.if_icmp .gt 7, 3) := by decide +kernel
theorem d109_12 : decode prog_5_method_3_code 12 = .ok (.iconst 1, 1) := by decide +kernel
theorem d109_13 : decode prog_5_method_3_code 13 = .ok (.goto 4, 3) := by decide +kernel
theorem d109_16 : decode prog_5_method_3_code 16 = .ok (.iconst 0, 1) := by decide +kernel
theorem d109_17 : decode prog_5_method_3_code 17 = .ok (.ireturn, 1) := by decide +kernel
theorem d110_0 : decode prog_5_method_4_code 0 = .ok (.iload_n 0, 1) := by decide +kernel
theorem d110_1 : decode prog_5_method_4_code 1 = .ok (.bipush 11, 2) := by decide +kernel
theorem d110_3 : decode prog_5_method_4_code 3 = .ok (.if_icmp .eq 9, 3) := by decide +kernel
theorem d110_6 : decode prog_5_method_4_code 6 = .ok (.iload_n 0, 1) := by decide +kernel
theorem d110_7 : decode prog_5_method_4_code 7 = .ok (.bipush 12, 2) := by decide +kernel
theorem d110_9 : decode prog_5_method_4_code 9 = .ok (.if_icmp .ne 7, 3) := by decide +kernel
theorem d110_12 : decode prog_5_method_4_code 12 = .ok (.iconst 1, 1) := by decide +kernel
theorem d110_13 : decode prog_5_method_4_code 13 = .ok (.goto 4, 3) := by decide +kernel
theorem d110_16 : decode prog_5_method_4_code 16 = .ok (.iconst 0, 1) := by decide +kernel
theorem d110_17 : decode prog_5_method_4_code 17 = .ok (.ireturn, 1) := by decide +kernel
theorem d111_0 : decode prog_5_method_5_code 0 = .ok (.iload_n 0, 1) := by decide +kernel
theorem d111_1 : decode prog_5_method_5_code 1 = .ok (.iconst 2, 1) := by decide +kernel
theorem d111_2 : decode prog_5_method_5_code 2 = .ok (.if_icmp .lt 13, 3) := by decide +kernel
theorem d111_5 : decode prog_5_method_5_code 5 = .ok (.iload_n 0, 1) := by decide +kernel
theorem d111_6 : decode prog_5_method_5_code 6 = .ok (.bipush 15, 2) := by decide +kernel
theorem d111_8 : decode prog_5_method_5_code 8 = .ok (.if_icmp .gt 7, 3) := by decide +kernel
theorem d111_11 : decode prog_5_method_5_code 11 = .ok (.iconst 1, 1) := by decide +kernel
theorem d111_12 : decode prog_5_method_5_code 12 = .ok (.goto 4, 3) := by decide +kernel
theorem d111_15 : decode prog_5_method_5_code 15 = .ok (.iconst 0, 1) := by decide +kernel
theorem d111_16 : decode prog_5_method_5_code 16 = .ok (.ireturn, 1) := by decide +kernel
theorem d112_0 : decode prog_8_method_2_code 0 = .ok (.iload_n 0, 1) := by decide +kernel
theorem d112_1 : decode prog_8_method_2_code 1 = .ok (.ifCond .eq 19, 3) := by decide +kernel
theorem d112_4 : decode prog_8_method_2_code 4 = .ok (.iload_n 0, 1) := by decide +kernel
theorem d112_5 : decode prog_8_method_2_code 5 = .ok (.bipush (-31), 2) := by decide +kernel
theorem d112_7 : decode prog_8_method_2_code 7 = .ok (.if_icmp .lt 13, 3) := by decide +kernel
theorem d112_10 : decode prog_8_method_2_code 10 = .ok (.iload_n 0, 1) := by decide +kernel
theorem d112_11 : decode prog_8_method_2_code 11 = .ok (.bipush 31, 2) := by decide +kernel
theorem d112_13 : decode prog_8_method_2_code 13 = .ok (.if_icmp .gt 7, 3) := by decide +kernel
theorem d112_16 : decode prog_8_method_2_code 16 = .ok (.iconst 1, 1) := by decide +kernel
theorem d112_17 : decode prog_8_method_2_code 17 = .ok (.goto 4, 3) := by decide +kernel
theorem d112_20 : decode prog_8_method_2_code 20 = .ok (.iconst 0, 1) := by decide +kernel
theorem d112_21 : decode prog_8_method_2_code 21 = .ok (.ireturn, 1) := by decide +kernel
theorem d113_0 : decode prog_8_method_3_code 0 = .ok (.iload_n 0, 1) := by decide +kernel
theorem d113_1 : decode prog_8_method_3_code 1 = .ok (.bipush 100, 2) := by decide +kernel
theorem d113_3 : decode prog_8_method_3_code 3 = .ok (.if_icmp .eq 23, 3) := by decide +kernel
theorem d113_6 : decode prog_8_method_3_code 6 = .ok (.iload_n 0, 1) := by decide +kernel
theorem d113_7 : decode prog_8_method_3_code 7 = .ok (.bipush 101, 2) := by decide +kernel
theorem d113_9 : decode prog_8_method_3_code 9 = .ok (.if_icmp .eq 17, 3) := by decide +kernel
theorem d113_12 : decode prog_8_method_3_code 12 = .ok (.iload_n 0, 1) := by decide +kernel
theorem d113_13 : decode prog_8_method_3_code 13 = .ok (.sipush 200, 3) := by decide +kernel
theorem d113_16 : decode prog_8_method_3_code 16 = .ok (.if_icmp .eq 10, 3) := by decide +kernel
theorem d113_19 : decode prog_8_method_3_code 19 = .ok (.iload_n 0, 1) := by decide +kernel
theorem d113_20 : decode prog_8_method_3_code 20 = .ok (.sipush 201, 3) := by decide +kernel
theorem d113_23 : decode prog_8_method_3_code 23 = .ok (.if_icmp .ne 7, 3) := by decide +kernel
theorem d113_26 : decode prog_8_method_3_code 26 = .ok (.iconst 1, 1) := by decide +kernel
theorem d113_27 : decode prog_8_method_3_code 27 = .ok (.goto 4, 3) := by decide +kernel
theorem d113_30 : decode prog_8_method_3_code 30 = .ok (.iconst 0, 1) := by decide +kernel
theorem d113_31 : decode prog_8_method_3_code 31 = .ok (.ireturn, 1) := by decide +kernel
theorem d114_0 : decode prog_8_method_4_code 0 = .ok (.iload_n 0, 1) := by decide +kernel
theorem d114_1 : decode prog_8_method_4_code 1 = .ok (.invokestatic 9, 3) := by decide +kernel
theorem d114_4 : decode prog_8_method_4_code 4 = .ok (.ifCond .ne 10, 3) := by decide +kernel
theorem d114_7 : decode prog_8_method_4_code 7 = .ok (.iload_n 0, 1) := by decide +kernel
theorem d114_8 : decode prog_8_method_4_code 8 = .ok (.invokestatic 13, 3) := by decide +kernel
theorem d114_11 : decode prog_8_method_4_code 11 = .ok (.ifCond .eq 7, 3) := by decide +kernel
theorem d114_14 : decode prog_8_method_4_code 14 = .ok (.iconst 1, 1) := by decide +kernel
theorem d114_15 : decode prog_8_method_4_code 15 = .ok (.goto 4, 3) := by decide +kernel
theorem d114_18 : decode prog_8_method_4_code 18 = .ok (.iconst 0, 1) := by decide +kernel
theorem d114_19 : decode prog_8_method_4_code 19 = .ok (.ireturn, 1) := by decide +kernel
theorem d115_0 : decode prog_8_method_5_code 0 = .ok (.iload_n 0, 1) := by decide +kernel
theorem d115_1 : decode prog_8_method_5_code 1 = .ok (.ifCond .eq 10, 3) := by decide +kernel
theorem d115_4 : decode prog_8_method_5_code 4 = .ok (.iload_n 0, 1) := by decide +kernel
theorem d115_5 : decode prog_8_method_5_code 5 = .ok (.invokestatic 16, 3) := by decide +kernel
theorem d115_8 : decode prog_8_method_5_code 8 = .ok (.ifCond .eq 7, 3) := by decide +kernel
theorem d115_11 : decode prog_8_method_5_code 11 = .ok (.iconst 1, 1) := by decide +kernel
theorem d115_12 : decode prog_8_method_5_code 12 = .ok (.goto 4, 3) := by decide +kernel
theorem d115_15 : decode prog_8_method_5_code 15 = .ok (.iconst 0, 1) := by decide +kernel
theorem d115_16 : decode prog_8_method_5_code 16 = .ok (.ireturn, 1) := by decide +kernel
theorem d116_0 : decode prog_8_method_6_code 0 = .ok (.iload_n 0, 1) := by decide +kernel
theorem d116_1 : decode prog_8_method_6_code 1 = .ok (.invokestatic 19, 3) := by decide +kernel
theorem d116_4 : decode prog_8_method_6_code 4 = .ok (.ifCond .ne 17, 3) := by decide +kernel
theorem d116_7 : decode prog_8_method_6_code 7 = .ok (.iload_n 0, 1) := by decide +kernel
theorem d116_8 : decode prog_8_method_6_code 8 = .ok (.sipush 300, 3) := by decide +kernel
theorem d116_11 : decode prog_8_method_6_code 11 = .ok (.if_icmp .eq 10, 3) := by decide +kernel
theorem d116_14 : decode prog_8_method_6_code 14 = .ok (.iload_n 0, 1) := by decide +kernel
theorem d116_15 : decode prog_8_method_6_code 15 = .ok (.sipush 400, 3) := by decide +kernel
theorem d116_18 : decode prog_8_method_6_code 18 = .ok (.if_icmp .ne 7, 3) := by decide +kernel
theorem d116_21 : decode prog_8_method_6_code 21 = .ok (.iconst 1, 1) := by decide +kernel
theorem d116_22 : decode prog_8_method_6_code 22 = .ok (.goto 4, 3) := by decide +kernel
theorem d116_25 : decode prog_8_method_6_code 25 = .ok (.iconst 0, 1) := by decide +kernel
theorem d116_26 : decode prog_8_method_6_code 26 = .ok (.ireturn, 1) := by decide +kernel
theorem d117_0 : decode prog_8_method_7_code 0 = .ok (.iload_n 0, 1) := by decide +kernel
theorem d117_1 : decode prog_8_method_7_code 1 = .ok (.sipush 300, 3) := by decide +kernel
theorem d117_4 : decode prog_8_method_7_code 4 = .ok (.if_icmp .ne 7, 3) := by decide +kernel
theorem d117_7 : decode prog_8_method_7_code 7 = .ok (.ldc2_w 22, 3) := by decide +kernel
theorem d117_10 : decode prog_8_method_7_code 10 = .ok (.lreturn, 1) := by decide +kernel
theorem d117_11 : decode prog_8_method_7_code 11 = .ok (.iload_n 0, 1) := by decide +kernel
theorem d117_12 : decode prog_8_method_7_code 12 = .ok (.ifCond .le 12, 3) := by decide +kernel
theorem d117_15 : decode prog_8_method_7_code 15 = .ok (.lconst 1, 1) := by decide +kernel
theorem d117_16 : decode prog_8_method_7_code 16 = .ok (.iload_n 0, 1) := by decide +kernel
theorem d117_17 : decode prog_8_method_7_code 17 = .ok (.iconst 1, 1) := by decide +kernel
theorem d117_18 : decode prog_8_method_7_code 18 = .ok (.isub, 1) := by decide +kernel
theorem d117_19 : decode prog_8_method_7_code 19 = .ok (.lshl, 1) := by decide +kernel
theorem d117_20 : decode prog_8_method_7_code 20 = .ok (.lneg, 1) := by decide +kernel
theorem d117_21 : decode prog_8_method_7_code 21 = .ok (.goto 4, 3) := by decide +kernel
theorem d117_24 : decode prog_8_method_7_code 24 = .ok (.lconst 0, 1) := by decide +kernel
theorem d117_25 : decode prog_8_method_7_code 25 = .ok (.lreturn, 1) := by decide +kernel
theorem d118_0 : decode prog_8_method_8_code 0 = .ok (.iload_n 0, 1) := by decide +kernel
theorem d118_1 : decode prog_8_method_8_code 1 = .ok (.sipush 300, 3) := by decide +kernel
theorem d118_4 : decode prog_8_method_8_code 4 = .ok (.if_icmp .ne 7, 3) := by decide +kernel
theorem d118_7 : decode prog_8_method_8_code 7 = .ok (.ldc2_w 24, 3) := by decide +kernel
theorem d118_10 : decode prog_8_method_8_code 10 = .ok (.lreturn, 1) := by decide +kernel
theorem d118_11 : decode prog_8_method_8_code 11 = .ok (.iload_n 0, 1) := by decide +kernel
theorem d118_12 : decode prog_8_method_8_code 12 = .ok (.ifCond .ne 5, 3) := by decide +kernel
theorem d118_15 : decode prog_8_method_8_code 15 = .ok (.lconst 1, 1) := by decide +kernel
theorem d118_16 : decode prog_8_method_8_code 16 = .ok (.lreturn, 1) := by decide +kernel
theorem d118_17 : decode prog_8_method_8_code 17 = .ok (.iload_n 0, 1) := by decide +kernel
theorem d118_18 : decode prog_8_method_8_code 18 = .ok (.ifCond .le 13, 3) := by decide +kernel
theorem d118_21 : decode prog_8_method_8_code 21 = .ok (.lconst 1, 1) := by decide +kernel
theorem d118_22 : decode prog_8_method_8_code 22 = .ok (.iload_n 0, 1) := by decide +kernel
theorem d118_23 : decode prog_8_method_8_code 23 = .ok (.iconst 1, 1) := by decide +kernel
theorem d118_24 : decode prog_8_method_8_code 24 = .ok (.isub, 1) := by decide +kernel
theorem d118_25 : decode prog_8_method_8_code 25 = .ok (.lshl, 1) := by decide +kernel
theorem d118_26 : decode prog_8_method_8_code 26 = .ok (.lconst 1, 1) := by decide +kernel
theorem d118_27 : decode prog_8_method_8_code 27 = .ok (.lsub, 1) := by decide +kernel
theorem d118_28 : decode prog_8_method_8_code 28 = .ok (.goto 9, 3) := by decide +kernel
theorem d118_31 : decode prog_8_method_8_code 31 = .ok (.lconst 1, 1) := by decide +kernel
theorem d118_32 : decode prog_8_method_8_code 32 = .ok (.iload_n 0, 1) := by decide +kernel
theorem d118_33 : decode prog_8_method_8_code 33 = .ok (.ineg, 1) := by decide +kernel
theorem d118_34 : decode prog_8_method_8_code 34 = .ok (.lshl, 1) := by decide +kernel
theorem d118_35 : decode prog_8_method_8_code 35 = .ok (.lconst 1, 1) := by decide +kernel
theorem d118_36 : decode prog_8_method_8_code 36 = .ok (.lsub, 1) := by decide +kernel
theorem d118_37 : decode prog_8_method_8_code 37 = .ok (.lreturn, 1) := by decide +kernel
theorem d119_0 : decode prog_8_method_9_code 0 = .ok (.lload_n 1, 1) := by decide +kernel
theorem d119_1 : decode prog_8_method_9_code 1 = .ok (.iload_n 0, 1) := by decide +kernel
theorem d119_2 : decode prog_8_method_9_code 2 = .ok (.invokestatic 26, 3) := by decide +kernel
theorem d119_5 : decode prog_8_method_9_code 5 = .ok (.lcmp, 1) := by decide +kernel
theorem d119_6 : decode prog_8_method_9_code 6 = .ok (.ifCond .lt 16, 3) := by decide +kernel
theorem d119_9 : decode prog_8_method_9_code 9 = .ok (.lload_n 1, 1) := by decide +kernel
theorem d119_10 : decode prog_8_method_9_code 10 = .ok (.iload_n 0, 1) := by decide +kernel
theorem d119_11 : decode prog_8_method_9_code 11 = .ok (.invokestatic 30, 3) := by decide +kernel
theorem d119_14 : decode prog_8_method_9_code 14 = .ok (.lcmp, 1) := by decide +kernel
theorem d119_15 : decode prog_8_method_9_code 15 = .ok (.ifCond .gt 7, 3) := by decide +kernel
theorem d119_18 : decode prog_8_method_9_code 18 = .ok (.iconst 1, 1) := by decide +kernel
theorem d119_19 : decode prog_8_method_9_code 19 = .ok (.goto 4, 3) := by decide +kernel
theorem d119_22 : decode prog_8_method_9_code 22 = .ok (.iconst 0, 1) := by decide +kernel
theorem d119_23 : decode prog_8_method_9_code 23 = .ok (.ireturn, 1) := by decide +kernel
theorem d120_0 : decode prog_2_method_2_code 0 = .ok (.lload_n 0, 1) := by decide +kernel
theorem d120_1 : decode prog_2_method_2_code 1 = .ok (.ldc2_w 9, 3) := by decide +kernel
theorem d120_4 : decode prog_2_method_2_code 4 = .ok (.lcmp, 1) := by decide +kernel
theorem d120_5 : decode prog_2_method_2_code 5 = .ok (.ifCond .le 7, 3) := by decide +kernel
theorem d120_8 : decode prog_2_method_2_code 8 = .ok (.iconst 1, 1) := by decide +kernel
theorem d120_9 : decode prog_2_method_2_code 9 = .ok (.goto 4, 3) := by decide +kernel
theorem d120_12 : decode prog_2_method_2_code 12 = .ok (.iconst 0, 1) := by decide +kernel
theorem d120_13 : decode prog_2_method_2_code 13 = .ok (.ireturn, 1) := by decide +kernel
theorem d121_0 : decode prog_2_method_3_code 0 = .ok (.iload_n 0, 1) := by decide +kernel
theorem d121_1 : decode prog_2_method_3_code 1 = .ok (.tableswitch 162 2 11 #[55, 64, 73, 82, 104, 113, 122, 131, 140, 149], 55) := by decide +kernel
theorem tk121_1 : mm_tk 2 11 #[55, 64, 73, 82, 104, 113, 122, 131, 140, 149] := by unfold mm_tk; decide +kernel
theorem d121_56 : decode prog_2_method_3_code 56 = .ok (.iload_n 1, 1) := by decide +kernel
theorem d121_57 : decode prog_2_method_3_code 57 = .ok (.lload_n 2, 1) := by decide +kernel
theorem d121_58 : decode prog_2_method_3_code 58 = .ok (.lload 4, 2) := by decide +kernel
theorem d121_60 : decode prog_2_method_3_code 60 = .ok (.ladd, 1) := by decide +kernel
theorem d121_61 : decode prog_2_method_3_code 61 = .ok (.invokestatic 11, 3) := by decide +kernel
theorem d121_64 : decode prog_2_method_3_code 64 = .ok (.lreturn, 1) := by decide +kernel
theorem d121_65 : decode prog_2_method_3_code 65 = .ok (.iload_n 1, 1) := by decide +kernel
theorem d121_66 : decode prog_2_method_3_code 66 = .ok (.lload_n 2, 1) := by decide +kernel
theorem d121_67 : decode prog_2_method_3_code 67 = .ok (.lload 4, 2) := by decide +kernel
theorem d121_69 : decode prog_2_method_3_code 69 = .ok (.lsub, 1) := by decide +kernel
theorem d121_70 : decode prog_2_method_3_code 70 = .ok (.invokestatic 11, 3) := by decide +kernel
theorem d121_73 : decode prog_2_method_3_code 73 = .ok (.lreturn, 1) := by decide +kernel
theorem d121_74 : decode prog_2_method_3_code 74 = .ok (.iload_n 1, 1) := by decide +kernel
theorem d121_75 : decode prog_2_method_3_code 75 = .ok (.lload_n 2, 1) := by decide +kernel
theorem d121_76 : decode prog_2_method_3_code 76 = .ok (.lload 4, 2) := by decide +kernel
theorem d121_78 : decode prog_2_method_3_code 78 = .ok (.lmul, 1) := by decide +kernel
theorem d121_79 : decode prog_2_method_3_code 79 = .ok (.invokestatic 11, 3) := by decide +kernel
theorem d121_82 : decode prog_2_method_3_code 82 = .ok (.lreturn, 1) := by decide +kernel
theorem d121_83 : decode prog_2_method_3_code 83 = .ok (.lload 4, 2) := by decide +kernel
theorem d121_85 : decode prog_2_method_3_code 85 = .ok (.lconst 0, 1) := by decide +kernel
theorem d121_86 : decode prog_2_method_3_code 86 = .ok (.lcmp, 1) := by decide +kernel
theorem d121_87 : decode prog_2_method_3_code 87 = .ok (.ifCond .ne 9, 3) := by decide +kernel
theorem d121_90 : decode prog_2_method_3_code 90 = .ok (.ldc2_w 17, 3) := by decide +kernel
theorem d121_93 : decode prog_2_method_3_code 93 = .ok (.goto 11, 3) := by decide +kernel
theorem d121_96 : decode prog_2_method_3_code 96 = .ok (.iload_n 1, 1) := by decide +kernel
theorem d121_97 : decode prog_2_method_3_code 97 = .ok (.lload_n 2, 1) := by decide +kernel
theorem d121_98 : decode prog_2_method_3_code 98 = .ok (.lload 4, 2) := by decide +kernel
theorem d121_100 : decode prog_2_method_3_code 100 = .ok (.ldiv, 1) := by decide +kernel
theorem d121_101 : decode prog_2_method_3_code 101 = .ok (.invokestatic 11, 3) := by decide +kernel
theorem d121_104 : decode prog_2_method_3_code 104 = .ok (.lreturn, 1) := by decide +kernel
theorem d121_105 : decode prog_2_method_3_code 105 = .ok (.iload_n 1, 1) := by decide +kernel
theorem d121_106 : decode prog_2_method_3_code 106 = .ok (.lload_n 2, 1) := by decide +kernel
theorem d121_107 : decode prog_2_method_3_code 107 = .ok (.lload 4, 2) := by decide +kernel
theorem d121_109 : decode prog_2_method_3_code 109 = .ok (.ladd, 1) := by decide +kernel
theorem d121_110 : decode prog_2_method_3_code 110 = .ok (.invokestatic 19, 3) := by decide +kernel
theorem d121_113 : decode prog_2_method_3_code 113 = .ok (.lreturn, 1) := by decide +kernel
theorem d121_114 : decode prog_2_method_3_code 114 = .ok (.iload_n 1, 1) := by decide +kernel
theorem d121_115 : decode prog_2_method_3_code 115 = .ok (.lload_n 2, 1) := by decide +kernel
theorem d121_116 : decode prog_2_method_3_code 116 = .ok (.lload 4, 2) := by decide +kernel
theorem d121_118 : decode prog_2_method_3_code 118 = .ok (.lsub, 1) := by decide +kernel
theorem d121_119 : decode prog_2_method_3_code 119 = .ok (.invokestatic 19, 3) := by decide +kernel
theorem d121_122 : decode prog_2_method_3_code 122 = .ok (.lreturn, 1) := by decide +kernel
theorem d121_123 : decode prog_2_method_3_code 123 = .ok (.iload_n 1, 1) := by decide +kernel
theorem d121_124 : decode prog_2_method_3_code 124 = .ok (.lload_n 2, 1) := by decide +kernel
theorem d121_125 : decode prog_2_method_3_code 125 = .ok (.lload 4, 2) := by decide +kernel
theorem d121_127 : decode prog_2_method_3_code 127 = .ok (.lmul, 1) := by decide +kernel
theorem d121_128 : decode prog_2_method_3_code 128 = .ok (.invokestatic 19, 3) := by decide +kernel
theorem d121_131 : decode prog_2_method_3_code 131 = .ok (.lreturn, 1) := by decide +kernel
theorem d121_132 : decode prog_2_method_3_code 132 = .ok (.iload_n 1, 1) := by decide +kernel
theorem d121_133 : decode prog_2_method_3_code 133 = .ok (.lload_n 2, 1) := by decide +kernel
theorem d121_134 : decode prog_2_method_3_code 134 = .ok (.lload 4, 2) := by decide +kernel
theorem d121_136 : decode prog_2_method_3_code 136 = .ok (.ladd, 1) := by decide +kernel
theorem d121_137 : decode prog_2_method_3_code 137 = .ok (.invokestatic 22, 3) := by decide +kernel
theorem d121_140 : decode prog_2_method_3_code 140 = .ok (.lreturn, 1) := by decide +kernel
theorem d121_141 : decode prog_2_method_3_code 141 = .ok (.iload_n 1, 1) := by decide +kernel
theorem d121_142 : decode prog_2_method_3_code 142 = .ok (.lload_n 2, 1) := by decide +kernel
theorem d121_143 : decode prog_2_method_3_code 143 = .ok (.lload 4, 2) := by decide +kernel
theorem d121_145 : decode prog_2_method_3_code 145 = .ok (.lsub, 1) := by decide +kernel
theorem d121_146 : decode prog_2_method_3_code 146 = .ok (.invokestatic 22, 3) := by decide +kernel
theorem d121_149 : decode prog_2_method_3_code 149 = .ok (.lreturn, 1) := by decide +kernel
theorem d121_150 : decode prog_2_method_3_code 150 = .ok (.lload_n 2, 1) := by decide +kernel
theorem d121_151 : decode prog_2_method_3_code 151 = .ok (.lload 4, 2) := by decide +kernel
theorem d121_153 : decode prog_2_method_3_code 153 = .ok (.lcmp, 1) := by decide +kernel
theorem d121_154 : decode prog_2_method_3_code 154 = .ok (.ifCond .ge 7, 3) := by decide +kernel
theorem d121_157 : decode prog_2_method_3_code 157 = .ok (.lconst 1, 1) := by decide +kernel
theorem d121_158 : decode prog_2_method_3_code 158 = .ok (.goto 4, 3) := by decide +kernel
theorem d121_161 : decode prog_2_method_3_code 161 = .ok (.lconst 0, 1) := by decide +kernel
theorem d121_162 : decode prog_2_method_3_code 162 = .ok (.lreturn, 1) := by decide +kernel
theorem d121_163 : decode prog_2_method_3_code 163 = .ok (.lload_n 2, 1) := by decide +kernel
theorem d121_164 : decode prog_2_method_3_code 164 = .ok (.lload 4, 2) := by decide +kernel
theorem d121_166 : decode prog_2_method_3_code 166 = .ok (.lcmp, 1) := by decide +kernel
theorem d121_167 : decode prog_2_method_3_code 167 = .ok (.ifCond .ne 7, 3) := by decide +kernel
theorem d121_170 : decode prog_2_method_3_code 170 = .ok (.lconst 1, 1) := by decide +kernel
theorem d121_171 : decode prog_2_method_3_code 171 = .ok (.goto 4, 3) := by decide +kernel
theorem d121_174 : decode prog_2_method_3_code 174 = .ok (.lconst 0, 1) := by decide +kernel
theorem d121_175 : decode prog_2_method_3_code 175 = .ok (.lreturn, 1) := by decide +kernel
theorem d122_0 : decode prog_2_method_4_code 0 = .ok (.iload_n 0, 1) := by decide +kernel
theorem d122_1 : decode prog_2_method_4_code 1 = .ok (.lload_n 1, 1) := by decide +kernel
theorem d122_2 : decode prog_2_method_4_code 2 = .ok (.invokestatic 25, 3) := by decide +kernel
theorem d122_5 : decode prog_2_method_4_code 5 = .ok (.ifCond .eq 7, 3) := by decide +kernel
theorem d122_8 : decode prog_2_method_4_code 8 = .ok (.lload_n 1, 1) := by decide +kernel
theorem d122_9 : decode prog_2_method_4_code 9 = .ok (.goto 6, 3) := by decide +kernel
theorem d122_12 : decode prog_2_method_4_code 12 = .ok (.ldc2_w 31, 3) := by decide +kernel
theorem d122_15 : decode prog_2_method_4_code 15 = .ok (.lreturn, 1) := by decide +kernel
theorem d123_0 : decode prog_2_method_5_code 0 = .ok (.bipush 64, 2) := by decide +kernel
theorem d123_2 : decode prog_2_method_5_code 2 = .ok (.iload_n 0, 1) := by decide +kernel
theorem d123_3 : decode prog_2_method_5_code 3 = .ok (.invokestatic 33, 3) := by decide +kernel
theorem d123_6 : decode prog_2_method_5_code 6 = .ok (.isub, 1) := by decide +kernel
theorem d123_7 : decode prog_2_method_5_code 7 = .ok (.istore_n 3, 1) := by decide +kernel
theorem d123_8 : decode prog_2_method_5_code 8 = .ok (.iload_n 0, 1) := by decide +kernel
theorem d123_9 : decode prog_2_method_5_code 9 = .ok (.ifCond .le 11, 3) := by decide +kernel
theorem d123_12 : decode prog_2_method_5_code 12 = .ok (.lload_n 1, 1) := by decide +kernel
theorem d123_13 : decode prog_2_method_5_code 13 = .ok (.iload_n 3, 1) := by decide +kernel
theorem d123_14 : decode prog_2_method_5_code 14 = .ok (.lshl, 1) := by decide +kernel
theorem d123_15 : decode prog_2_method_5_code 15 = .ok (.iload_n 3, 1) := by decide +kernel
theorem d123_16 : decode prog_2_method_5_code 16 = .ok (.lshr, 1) := by decide +kernel
theorem d123_17 : decode prog_2_method_5_code 17 = .ok (.goto 8, 3) := by decide +kernel
theorem d123_20 : decode prog_2_method_5_code 20 = .ok (.lload_n 1, 1) := by decide +kernel
theorem d123_21 : decode prog_2_method_5_code 21 = .ok (.iload_n 3, 1) := by decide +kernel
theorem d123_22 : decode prog_2_method_5_code 22 = .ok (.lshl, 1) := by decide +kernel
theorem d123_23 : decode prog_2_method_5_code 23 = .ok (.iload_n 3, 1) := by decide +kernel
theorem d123_24 : decode prog_2_method_5_code 24 = .ok (.lushr, 1) := by decide +kernel
theorem d123_25 : decode prog_2_method_5_code 25 = .ok (.lreturn, 1) := by decide +kernel
theorem d124_0 : decode prog_2_method_6_code 0 = .ok (.iload_n 0, 1) := by decide +kernel
theorem d124_1 : decode prog_2_method_6_code 1 = .ok (.invokestatic 39, 3) := by decide +kernel
theorem d124_4 : decode prog_2_method_6_code 4 = .ok (.iload_n 0, 1) := by decide +kernel
theorem d124_5 : decode prog_2_method_6_code 5 = .ok (.invokestatic 43, 3) := by decide +kernel
theorem d124_8 : decode prog_2_method_6_code 8 = .ok (.lload_n 1, 1) := by decide +kernel
theorem d124_9 : decode prog_2_method_6_code 9 = .ok (.invokestatic 46, 3) := by decide +kernel
theorem d124_12 : decode prog_2_method_6_code 12 = .ok (.invokestatic 50, 3) := by decide +kernel
theorem d124_15 : decode prog_2_method_6_code 15 = .ok (.lreturn, 1) := by decide +kernel
theorem d999_0 : decode code 0 = .ok (.new 7, 3) := by decide +kernel
theorem d999_3 : decode code 3 = .ok (.dup, 1) := by decide +kernel
theorem d999_4 : decode code 4 = .ok (.invokespecial 9, 3) := by decide +kernel
theorem d999_7 : decode code 7 = .ok (.astore_n 1, 1) := by decide +kernel
theorem d999_8 : decode code 8 = .ok (.new 10, 3) := by decide +kernel
theorem d999_11 : decode code 11 = .ok (.dup, 1) := by decide +kernel
theorem d999_12 : decode code 12 = .ok (.invokespecial 12, 3) := by decide +kernel
theorem d999_15 : decode code 15 = .ok (.astore_n 2, 1) := by decide +kernel
theorem d999_16 : decode code 16 = .ok (.iconst 0, 1) := by decide +kernel
theorem d999_17 : decode code 17 = .ok (.istore_n 3, 1) := by decide +kernel
theorem d999_18 : decode code 18 = .ok (.iload_n 3, 1) := by decide +kernel
theorem d999_19 : decode code 19 = .ok (.aload_n 0, 1) := by decide +kernel
theorem d999_20 : decode code 20 = .ok (.arraylength, 1) := by decide +kernel
theorem d999_21 : decode code 21 = .ok (.bipush 6, 2) := by decide +kernel
theorem d999_23 : decode code 23 = .ok (.isub, 1) := by decide +kernel
theorem d999_24 : decode code 24 = .ok (.if_icmp .gt 460, 3) := by decide +kernel
theorem d999_27 : decode code 27 = .ok (.aload_n 0, 1) := by decide +kernel
theorem d999_28 : decode code 28 = .ok (.iload_n 3, 1) := by decide +kernel
theorem d999_29 : decode code 29 = .ok (.iaload, 1) := by decide +kernel
theorem d999_30 : decode code 30 = .ok (.bipush 15, 2) := by decide +kernel
theorem d999_32 : decode code 32 = .ok (.iand, 1) := by decide +kernel
theorem d999_33 : decode code 33 = .ok (.tableswitch 445 0 10 #[59, 112, 175, 218, 231, 254, 288, 321, 355, 378, 422], 59) := by decide +kernel
theorem tk999_33 : mm_tk 0 10 #[59, 112, 175, 218, 231, 254, 288, 321, 355, 378, 422] := by unfold mm_tk; decide +kernel
theorem d999_92 : decode code 92 = .ok (.aload_n 1, 1) := by decide +kernel
theorem d999_93 : decode code 93 = .ok (.aload_n 0, 1) := by decide +kernel
theorem d999_94 : decode code 94 = .ok (.iload_n 3, 1) := by decide +kernel
theorem d999_95 : decode code 95 = .ok (.iconst 1, 1) := by decide +kernel
theorem d999_96 : decode code 96 = .ok (.iadd, 1) := by decide +kernel
theorem d999_97 : decode code 97 = .ok (.iaload, 1) := by decide +kernel
theorem d999_98 : decode code 98 = .ok (.aload_n 0, 1) := by decide +kernel
theorem d999_99 : decode code 99 = .ok (.iload_n 3, 1) := by decide +kernel
theorem d999_100 : decode code 100 = .ok (.iconst 2, 1) := by decide +kernel
theorem d999_101 : decode code 101 = .ok (.iadd, 1) := by decide +kernel
theorem d999_102 : decode code 102 = .ok (.iaload, 1) := by decide +kernel
theorem d999_103 : decode code 103 = .ok (.aload_n 0, 1) := by decide +kernel
theorem d999_104 : decode code 104 = .ok (.iload_n 3, 1) := by decide +kernel
theorem d999_105 : decode code 105 = .ok (.iconst 3, 1) := by decide +kernel
theorem d999_106 : decode code 106 = .ok (.iadd, 1) := by decide +kernel
theorem d999_107 : decode code 107 = .ok (.iaload, 1) := by decide +kernel
theorem d999_108 : decode code 108 = .ok (.aload_n 0, 1) := by decide +kernel
theorem d999_109 : decode code 109 = .ok (.iload_n 3, 1) := by decide +kernel
theorem d999_110 : decode code 110 = .ok (.iconst 4, 1) := by decide +kernel
theorem d999_111 : decode code 111 = .ok (.iadd, 1) := by decide +kernel
theorem d999_112 : decode code 112 = .ok (.iaload, 1) := by decide +kernel
theorem d999_113 : decode code 113 = .ok (.invokevirtual 13, 3) := by decide +kernel
theorem d999_116 : decode code 116 = .ok (.aload_n 2, 1) := by decide +kernel
theorem d999_117 : decode code 117 = .ok (.aload_n 0, 1) := by decide +kernel
theorem d999_118 : decode code 118 = .ok (.iload_n 3, 1) := by decide +kernel
theorem d999_119 : decode code 119 = .ok (.iconst 1, 1) := by decide +kernel
theorem d999_120 : decode code 120 = .ok (.iadd, 1) := by decide +kernel
theorem d999_121 : decode code 121 = .ok (.iaload, 1) := by decide +kernel
theorem d999_122 : decode code 122 = .ok (.aload_n 0, 1) := by decide +kernel
theorem d999_123 : decode code 123 = .ok (.iload_n 3, 1) := by decide +kernel
theorem d999_124 : decode code 124 = .ok (.iconst 2, 1) := by decide +kernel
theorem d999_125 : decode code 125 = .ok (.iadd, 1) := by decide +kernel
theorem d999_126 : decode code 126 = .ok (.iaload, 1) := by decide +kernel
theorem d999_127 : decode code 127 = .ok (.aload_n 0, 1) := by decide +kernel
theorem d999_128 : decode code 128 = .ok (.iload_n 3, 1) := by decide +kernel
theorem d999_129 : decode code 129 = .ok (.iconst 3, 1) := by decide +kernel
theorem d999_130 : decode code 130 = .ok (.iadd, 1) := by decide +kernel
theorem d999_131 : decode code 131 = .ok (.iaload, 1) := by decide +kernel
theorem d999_132 : decode code 132 = .ok (.aload_n 0, 1) := by decide +kernel
theorem d999_133 : decode code 133 = .ok (.iload_n 3, 1) := by decide +kernel
theorem d999_134 : decode code 134 = .ok (.iconst 4, 1) := by decide +kernel
theorem d999_135 : decode code 135 = .ok (.iadd, 1) := by decide +kernel
theorem d999_136 : decode code 136 = .ok (.iaload, 1) := by decide +kernel
theorem d999_137 : decode code 137 = .ok (.invokevirtual 17, 3) := by decide +kernel
theorem d999_140 : decode code 140 = .ok (.if_icmp .eq 338, 3) := by decide +kernel
theorem d999_143 : decode code 143 = .ok (.iconst 0, 1) := by decide +kernel
theorem d999_144 : decode code 144 = .ok (.ireturn, 1) := by decide +kernel
theorem d999_145 : decode code 145 = .ok (.aload_n 1, 1) := by decide +kernel
theorem d999_146 : decode code 146 = .ok (.aload_n 0, 1) := by decide +kernel
theorem d999_147 : decode code 147 = .ok (.iload_n 3, 1) := by decide +kernel
theorem d999_148 : decode code 148 = .ok (.iconst 1, 1) := by decide +kernel
theorem d999_149 : decode code 149 = .ok (.iadd, 1) := by decide +kernel
theorem d999_150 : decode code 150 = .ok (.iaload, 1) := by decide +kernel
theorem d999_151 : decode code 151 = .ok (.aload_n 0, 1) := by decide +kernel
theorem d999_152 : decode code 152 = .ok (.iload_n 3, 1) := by decide +kernel
theorem d999_153 : decode code 153 = .ok (.iconst 2, 1) := by decide +kernel
theorem d999_154 : decode code 154 = .ok (.iadd, 1) := by decide +kernel
theorem d999_155 : decode code 155 = .ok (.iaload, 1) := by decide +kernel
theorem d999_156 : decode code 156 = .ok (.aload_n 0, 1) := by decide +kernel
theorem d999_157 : decode code 157 = .ok (.iload_n 3, 1) := by decide +kernel
theorem d999_158 : decode code 158 = .ok (.iconst 3, 1) := by decide +kernel
theorem d999_159 : decode code 159 = .ok (.iadd, 1) := by decide +kernel
theorem d999_160 : decode code 160 = .ok (.iaload, 1) := by decide +kernel
theorem d999_161 : decode code 161 = .ok (.aload_n 0, 1) := by decide +kernel
theorem d999_162 : decode code 162 = .ok (.iload_n 3, 1) := by decide +kernel
theorem d999_163 : decode code 163 = .ok (.iconst 4, 1) := by decide +kernel
theorem d999_164 : decode code 164 = .ok (.iadd, 1) := by decide +kernel
theorem d999_165 : decode code 165 = .ok (.iaload, 1) := by decide +kernel
theorem d999_166 : decode code 166 = .ok (.aload_n 0, 1) := by decide +kernel
theorem d999_167 : decode code 167 = .ok (.iload_n 3, 1) := by decide +kernel
theorem d999_168 : decode code 168 = .ok (.iconst 5, 1) := by decide +kernel
theorem d999_169 : decode code 169 = .ok (.iadd, 1) := by decide +kernel
theorem d999_170 : decode code 170 = .ok (.iaload, 1) := by decide +kernel
theorem d999_171 : decode code 171 = .ok (.invokevirtual 18, 3) := by decide +kernel
theorem d999_174 : decode code 174 = .ok (.aload_n 2, 1) := by decide +kernel
theorem d999_175 : decode code 175 = .ok (.aload_n 0, 1) := by decide +kernel
theorem d999_176 : decode code 176 = .ok (.iload_n 3, 1) := by decide +kernel
theorem d999_177 : decode code 177 = .ok (.iconst 1, 1) := by decide +kernel
theorem d999_178 : decode code 178 = .ok (.iadd, 1) := by decide +kernel
theorem d999_179 : decode code 179 = .ok (.iaload, 1) := by decide +kernel
theorem d999_180 : decode code 180 = .ok (.aload_n 0, 1) := by decide +kernel
theorem d999_181 : decode code 181 = .ok (.iload_n 3, 1) := by decide +kernel
theorem d999_182 : decode code 182 = .ok (.iconst 2, 1) := by decide +kernel
theorem d999_183 : decode code 183 = .ok (.iadd, 1) := by decide +kernel
theorem d999_184 : decode code 184 = .ok (.iaload, 1) := by decide +kernel
theorem d999_185 : decode code 185 = .ok (.aload_n 0, 1) := by decide +kernel
theorem d999_186 : decode code 186 = .ok (.iload_n 3, 1) := by decide +kernel
theorem d999_187 : decode code 187 = .ok (.iconst 3, 1) := by decide +kernel
theorem d999_188 : decode code 188 = .ok (.iadd, 1) := by decide +kernel
theorem d999_189 : decode code 189 = .ok (.iaload, 1) := by decide +kernel
theorem d999_190 : decode code 190 = .ok (.aload_n 0, 1) := by decide +kernel
theorem d999_191 : decode code 191 = .ok (.iload_n 3, 1) := by decide +kernel
theorem d999_192 : decode code 192 = .ok (.iconst 4, 1) := by decide +kernel
theorem d999_193 : decode code 193 = .ok (.iadd, 1) := by decide +kernel
theorem d999_194 : decode code 194 = .ok (.iaload, 1) := by decide +kernel
theorem d999_195 : decode code 195 = .ok (.aload_n 0, 1) := by decide +kernel
theorem d999_196 : decode code 196 = .ok (.iload_n 3, 1) := by decide +kernel
theorem d999_197 : decode code 197 = .ok (.iconst 5, 1) := by decide +kernel
theorem d999_198 : decode code 198 = .ok (.iadd, 1) := by decide +kernel
theorem d999_199 : decode code 199 = .ok (.iaload, 1) := by decide +kernel
theorem d999_200 : decode code 200 = .ok (.invokevirtual 22, 3) := by decide +kernel
theorem d999_203 : decode code 203 = .ok (.if_icmp .eq 275, 3) := by decide +kernel
theorem d999_206 : decode code 206 = .ok (.iconst 0, 1) := by decide +kernel
theorem d999_207 : decode code 207 = .ok (.ireturn, 1) := by decide +kernel
theorem d999_208 : decode code 208 = .ok (.aload_n 1, 1) := by decide +kernel
theorem d999_209 : decode code 209 = .ok (.aload_n 0, 1) := by decide +kernel
theorem d999_210 : decode code 210 = .ok (.iload_n 3, 1) := by decide +kernel
theorem d999_211 : decode code 211 = .ok (.iconst 1, 1) := by decide +kernel
theorem d999_212 : decode code 212 = .ok (.iadd, 1) := by decide +kernel
theorem d999_213 : decode code 213 = .ok (.iaload, 1) := by decide +kernel
theorem d999_214 : decode code 214 = .ok (.aload_n 0, 1) := by decide +kernel
theorem d999_215 : decode code 215 = .ok (.iload_n 3, 1) := by decide +kernel
theorem d999_216 : decode code 216 = .ok (.iconst 2, 1) := by decide +kernel
theorem d999_217 : decode code 217 = .ok (.iadd, 1) := by decide +kernel
theorem d999_218 : decode code 218 = .ok (.iaload, 1) := by decide +kernel
theorem d999_219 : decode code 219 = .ok (.aload_n 0, 1) := by decide +kernel
theorem d999_220 : decode code 220 = .ok (.iload_n 3, 1) := by decide +kernel
theorem d999_221 : decode code 221 = .ok (.iconst 3, 1) := by decide +kernel
theorem d999_222 : decode code 222 = .ok (.iadd, 1) := by decide +kernel
theorem d999_223 : decode code 223 = .ok (.iaload, 1) := by decide +kernel
theorem d999_224 : decode code 224 = .ok (.invokevirtual 23, 3) := by decide +kernel
theorem d999_227 : decode code 227 = .ok (.aload_n 2, 1) := by decide +kernel
theorem d999_228 : decode code 228 = .ok (.aload_n 0, 1) := by decide +kernel
theorem d999_229 : decode code 229 = .ok (.iload_n 3, 1) := by decide +kernel
theorem d999_230 : decode code 230 = .ok (.iconst 1, 1) := by decide +kernel
theorem d999_231 : decode code 231 = .ok (.iadd, 1) := by decide +kernel
theorem d999_232 : decode code 232 = .ok (.iaload, 1) := by decide +kernel
theorem d999_233 : decode code 233 = .ok (.aload_n 0, 1) := by decide +kernel
theorem d999_234 : decode code 234 = .ok (.iload_n 3, 1) := by decide +kernel
theorem d999_235 : decode code 235 = .ok (.iconst 2, 1) := by decide +kernel
theorem d999_236 : decode code 236 = .ok (.iadd, 1) := by decide +kernel
theorem d999_237 : decode code 237 = .ok (.iaload, 1) := by decide +kernel
theorem d999_238 : decode code 238 = .ok (.aload_n 0, 1) := by decide +kernel
theorem d999_239 : decode code 239 = .ok (.iload_n 3, 1) := by decide +kernel
theorem d999_240 : decode code 240 = .ok (.iconst 3, 1) := by decide +kernel
theorem d999_241 : decode code 241 = .ok (.iadd, 1) := by decide +kernel
theorem d999_242 : decode code 242 = .ok (.iaload, 1) := by decide +kernel
theorem d999_243 : decode code 243 = .ok (.invokevirtual 27, 3) := by decide +kernel
theorem d999_246 : decode code 246 = .ok (.if_icmp .eq 232, 3) := by decide +kernel
theorem d999_249 : decode code 249 = .ok (.iconst 0, 1) := by decide +kernel
theorem d999_250 : decode code 250 = .ok (.ireturn, 1) := by decide +kernel
theorem d999_251 : decode code 251 = .ok (.aload_n 1, 1) := by decide +kernel
theorem d999_252 : decode code 252 = .ok (.invokevirtual 28, 3) := by decide +kernel
theorem d999_255 : decode code 255 = .ok (.aload_n 2, 1) := by decide +kernel
theorem d999_256 : decode code 256 = .ok (.invokevirtual 32, 3) := by decide +kernel
theorem d999_259 : decode code 259 = .ok (.if_icmp .eq 219, 3) := by decide +kernel
theorem d999_262 : decode code 262 = .ok (.iconst 0, 1) := by decide +kernel
theorem d999_263 : decode code 263 = .ok (.ireturn, 1) := by decide +kernel
theorem d999_264 : decode code 264 = .ok (.aload_n 1, 1) := by decide +kernel
theorem d999_265 : decode code 265 = .ok (.aload_n 0, 1) := by decide +kernel
theorem d999_266 : decode code 266 = .ok (.iload_n 3, 1) := by decide +kernel
theorem d999_267 : decode code 267 = .ok (.iconst 1, 1) := by decide +kernel
theorem d999_268 : decode code 268 = .ok (.iadd, 1) := by decide +kernel
theorem d999_269 : decode code 269 = .ok (.iaload, 1) := by decide +kernel
theorem d999_270 : decode code 270 = .ok (.invokevirtual 33, 3) := by decide +kernel
theorem d999_273 : decode code 273 = .ok (.aload_n 2, 1) := by decide +kernel
theorem d999_274 : decode code 274 = .ok (.aload_n 0, 1) := by decide +kernel
theorem d999_275 : decode code 275 = .ok (.iload_n 3, 1) := by decide +kernel
theorem d999_276 : decode code 276 = .ok (.iconst 1, 1) := by decide +kernel
theorem d999_277 : decode code 277 = .ok (.iadd, 1) := by decide +kernel
theorem d999_278 : decode code 278 = .ok (.iaload, 1) := by decide +kernel
theorem d999_279 : decode code 279 = .ok (.invokevirtual 37, 3) := by decide +kernel
theorem d999_282 : decode code 282 = .ok (.if_icmp .eq 196, 3) := by decide +kernel
theorem d999_285 : decode code 285 = .ok (.iconst 0, 1) := by decide +kernel
theorem d999_286 : decode code 286 = .ok (.ireturn, 1) := by decide +kernel
theorem d999_287 : decode code 287 = .ok (.aload_n 1, 1) := by decide +kernel
theorem d999_288 : decode code 288 = .ok (.aload_n 0, 1) := by decide +kernel
theorem d999_289 : decode code 289 = .ok (.iload_n 3, 1) := by decide +kernel
theorem d999_290 : decode code 290 = .ok (.iconst 1, 1) := by decide +kernel
theorem d999_291 : decode code 291 = .ok (.iadd, 1) := by decide +kernel
theorem d999_292 : decode code 292 = .ok (.iaload, 1) := by decide +kernel
theorem d999_293 : decode code 293 = .ok (.aload_n 0, 1) := by decide +kernel
theorem d999_294 : decode code 294 = .ok (.iload_n 3, 1) := by decide +kernel
theorem d999_295 : decode code 295 = .ok (.iconst 2, 1) := by decide +kernel
theorem d999_296 : decode code 296 = .ok (.iadd, 1) := by decide +kernel
theorem d999_297 : decode code 297 = .ok (.iaload, 1) := by decide +kernel
theorem d999_298 : decode code 298 = .ok (.invokevirtual 38, 3) := by decide +kernel
theorem d999_301 : decode code 301 = .ok (.aload_n 2, 1) := by decide +kernel
theorem d999_302 : decode code 302 = .ok (.aload_n 0, 1) := by decide +kernel
theorem d999_303 : decode code 303 = .ok (.iload_n 3, 1) := by decide +kernel
theorem d999_304 : decode code 304 = .ok (.iconst 1, 1) := by decide +kernel
theorem d999_305 : decode code 305 = .ok (.iadd, 1) := by decide +kernel
theorem d999_306 : decode code 306 = .ok (.iaload, 1) := by decide +kernel
theorem d999_307 : decode code 307 = .ok (.aload_n 0, 1) := by decide +kernel
theorem d999_308 : decode code 308 = .ok (.iload_n 3, 1) := by decide +kernel
theorem d999_309 : decode code 309 = .ok (.iconst 2, 1) := by decide +kernel
theorem d999_310 : decode code 310 = .ok (.iadd, 1) := by decide +kernel
theorem d999_311 : decode code 311 = .ok (.iaload, 1) := by decide +kernel
theorem d999_312 : decode code 312 = .ok (.invokevirtual 42, 3) := by decide +kernel
theorem d999_315 : decode code 315 = .ok (.lcmp, 1) := by decide +kernel
theorem d999_316 : decode code 316 = .ok (.ifCond .eq 162, 3) := by decide +kernel
theorem d999_319 : decode code 319 = .ok (.iconst 0, 1) := by decide +kernel
theorem d999_320 : decode code 320 = .ok (.ireturn, 1) := by decide +kernel
theorem d999_321 : decode code 321 = .ok (.aload_n 1, 1) := by decide +kernel
theorem d999_322 : decode code 322 = .ok (.aload_n 0, 1) := by decide +kernel
theorem d999_323 : decode code 323 = .ok (.iload_n 3, 1) := by decide +kernel
theorem d999_324 : decode code 324 = .ok (.iconst 1, 1) := by decide +kernel
theorem d999_325 : decode code 325 = .ok (.iadd, 1) := by decide +kernel
theorem d999_326 : decode code 326 = .ok (.iaload, 1) := by decide +kernel
theorem d999_327 : decode code 327 = .ok (.aload_n 0, 1) := by decide +kernel
theorem d999_328 : decode code 328 = .ok (.iload_n 3, 1) := by decide +kernel
theorem d999_329 : decode code 329 = .ok (.iconst 2, 1) := by decide +kernel
theorem d999_330 : decode code 330 = .ok (.iadd, 1) := by decide +kernel
theorem d999_331 : decode code 331 = .ok (.iaload, 1) := by decide +kernel
theorem d999_332 : decode code 332 = .ok (.invokevirtual 43, 3) := by decide +kernel
theorem d999_335 : decode code 335 = .ok (.aload_n 2, 1) := by decide +kernel
theorem d999_336 : decode code 336 = .ok (.aload_n 0, 1) := by decide +kernel
theorem d999_337 : decode code 337 = .ok (.iload_n 3, 1) := by decide +kernel
theorem d999_338 : decode code 338 = .ok (.iconst 1, 1) := by decide +kernel
theorem d999_339 : decode code 339 = .ok (.iadd, 1) := by decide +kernel
theorem d999_340 : decode code 340 = .ok (.iaload, 1) := by decide +kernel
theorem d999_341 : decode code 341 = .ok (.aload_n 0, 1) := by decide +kernel
theorem d999_342 : decode code 342 = .ok (.iload_n 3, 1) := by decide +kernel
theorem d999_343 : decode code 343 = .ok (.iconst 2, 1) := by decide +kernel
theorem d999_344 : decode code 344 = .ok (.iadd, 1) := by decide +kernel
theorem d999_345 : decode code 345 = .ok (.iaload, 1) := by decide +kernel
theorem d999_346 : decode code 346 = .ok (.invokevirtual 47, 3) := by decide +kernel
theorem d999_349 : decode code 349 = .ok (.if_icmp .eq 129, 3) := by decide +kernel
theorem d999_352 : decode code 352 = .ok (.iconst 0, 1) := by decide +kernel
theorem d999_353 : decode code 353 = .ok (.ireturn, 1) := by decide +kernel
theorem d999_354 : decode code 354 = .ok (.aload_n 1, 1) := by decide +kernel
theorem d999_355 : decode code 355 = .ok (.aload_n 0, 1) := by decide +kernel
theorem d999_356 : decode code 356 = .ok (.iload_n 3, 1) := by decide +kernel
theorem d999_357 : decode code 357 = .ok (.iconst 1, 1) := by decide +kernel
theorem d999_358 : decode code 358 = .ok (.iadd, 1) := by decide +kernel
theorem d999_359 : decode code 359 = .ok (.iaload, 1) := by decide +kernel
theorem d999_360 : decode code 360 = .ok (.aload_n 0, 1) := by decide +kernel
theorem d999_361 : decode code 361 = .ok (.iload_n 3, 1) := by decide +kernel
theorem d999_362 : decode code 362 = .ok (.iconst 2, 1) := by decide +kernel
theorem d999_363 : decode code 363 = .ok (.iadd, 1) := by decide +kernel
theorem d999_364 : decode code 364 = .ok (.iaload, 1) := by decide +kernel
theorem d999_365 : decode code 365 = .ok (.invokevirtual 48, 3) := by decide +kernel
theorem d999_368 : decode code 368 = .ok (.aload_n 2, 1) := by decide +kernel
theorem d999_369 : decode code 369 = .ok (.aload_n 0, 1) := by decide +kernel
theorem d999_370 : decode code 370 = .ok (.iload_n 3, 1) := by decide +kernel
theorem d999_371 : decode code 371 = .ok (.iconst 1, 1) := by decide +kernel
theorem d999_372 : decode code 372 = .ok (.iadd, 1) := by decide +kernel
theorem d999_373 : decode code 373 = .ok (.iaload, 1) := by decide +kernel
theorem d999_374 : decode code 374 = .ok (.aload_n 0, 1) := by decide +kernel
theorem d999_375 : decode code 375 = .ok (.iload_n 3, 1) := by decide +kernel
theorem d999_376 : decode code 376 = .ok (.iconst 2, 1) := by decide +kernel
theorem d999_377 : decode code 377 = .ok (.iadd, 1) := by decide +kernel
theorem d999_378 : decode code 378 = .ok (.iaload, 1) := by decide +kernel
theorem d999_379 : decode code 379 = .ok (.invokevirtual 51, 3) := by decide +kernel
theorem d999_382 : decode code 382 = .ok (.lcmp, 1) := by decide +kernel
theorem d999_383 : decode code 383 = .ok (.ifCond .eq 95, 3) := by decide +kernel
theorem d999_386 : decode code 386 = .ok (.iconst 0, 1) := by decide +kernel
theorem d999_387 : decode code 387 = .ok (.ireturn, 1) := by decide +kernel
theorem d999_388 : decode code 388 = .ok (.aload_n 1, 1) := by decide +kernel
theorem d999_389 : decode code 389 = .ok (.aload_n 0, 1) := by decide +kernel
theorem d999_390 : decode code 390 = .ok (.iload_n 3, 1) := by decide +kernel
theorem d999_391 : decode code 391 = .ok (.iconst 1, 1) := by decide +kernel
theorem d999_392 : decode code 392 = .ok (.iadd, 1) := by decide +kernel
theorem d999_393 : decode code 393 = .ok (.iaload, 1) := by decide +kernel
theorem d999_394 : decode code 394 = .ok (.invokevirtual 52, 3) := by decide +kernel
theorem d999_397 : decode code 397 = .ok (.aload_n 2, 1) := by decide +kernel
theorem d999_398 : decode code 398 = .ok (.aload_n 0, 1) := by decide +kernel
theorem d999_399 : decode code 399 = .ok (.iload_n 3, 1) := by decide +kernel
theorem d999_400 : decode code 400 = .ok (.iconst 1, 1) := by decide +kernel
theorem d999_401 : decode code 401 = .ok (.iadd, 1) := by decide +kernel
theorem d999_402 : decode code 402 = .ok (.iaload, 1) := by decide +kernel
theorem d999_403 : decode code 403 = .ok (.invokevirtual 55, 3) := by decide +kernel
theorem d999_406 : decode code 406 = .ok (.if_icmp .eq 72, 3) := by decide +kernel
theorem d999_409 : decode code 409 = .ok (.iconst 0, 1) := by decide +kernel
theorem d999_410 : decode code 410 = .ok (.ireturn, 1) := by decide +kernel
theorem d999_411 : decode code 411 = .ok (.aload_n 1, 1) := by decide +kernel
theorem d999_412 : decode code 412 = .ok (.aload_n 0, 1) := by decide +kernel
theorem d999_413 : decode code 413 = .ok (.iload_n 3, 1) := by decide +kernel
theorem d999_414 : decode code 414 = .ok (.iconst 1, 1) := by decide +kernel
theorem d999_415 : decode code 415 = .ok (.iadd, 1) := by decide +kernel
theorem d999_416 : decode code 416 = .ok (.iaload, 1) := by decide +kernel
theorem d999_417 : decode code 417 = .ok (.aload_n 0, 1) := by decide +kernel
theorem d999_418 : decode code 418 = .ok (.iload_n 3, 1) := by decide +kernel
theorem d999_419 : decode code 419 = .ok (.iconst 2, 1) := by decide +kernel
theorem d999_420 : decode code 420 = .ok (.iadd, 1) := by decide +kernel
theorem d999_421 : decode code 421 = .ok (.iaload, 1) := by decide +kernel
theorem d999_422 : decode code 422 = .ok (.aload_n 0, 1) := by decide +kernel
theorem d999_423 : decode code 423 = .ok (.iload_n 3, 1) := by decide +kernel
theorem d999_424 : decode code 424 = .ok (.iconst 3, 1) := by decide +kernel
theorem d999_425 : decode code 425 = .ok (.iadd, 1) := by decide +kernel
theorem d999_426 : decode code 426 = .ok (.iaload, 1) := by decide +kernel
theorem d999_427 : decode code 427 = .ok (.invokevirtual 56, 3) := by decide +kernel
theorem d999_430 : decode code 430 = .ok (.aload_n 2, 1) := by decide +kernel
theorem d999_431 : decode code 431 = .ok (.aload_n 0, 1) := by decide +kernel
theorem d999_432 : decode code 432 = .ok (.iload_n 3, 1) := by decide +kernel
theorem d999_433 : decode code 433 = .ok (.iconst 1, 1) := by decide +kernel
theorem d999_434 : decode code 434 = .ok (.iadd, 1) := by decide +kernel
theorem d999_435 : decode code 435 = .ok (.iaload, 1) := by decide +kernel
theorem d999_436 : decode code 436 = .ok (.aload_n 0, 1) := by decide +kernel
theorem d999_437 : decode code 437 = .ok (.iload_n 3, 1) := by decide +kernel
theorem d999_438 : decode code 438 = .ok (.iconst 2, 1) := by decide +kernel
theorem d999_439 : decode code 439 = .ok (.iadd, 1) := by decide +kernel
theorem d999_440 : decode code 440 = .ok (.iaload, 1) := by decide +kernel
theorem d999_441 : decode code 441 = .ok (.aload_n 0, 1) := by decide +kernel
theorem d999_442 : decode code 442 = .ok (.iload_n 3, 1) := by decide +kernel
theorem d999_443 : decode code 443 = .ok (.iconst 3, 1) := by decide +kernel
theorem d999_444 : decode code 444 = .ok (.iadd, 1) := by decide +kernel
theorem d999_445 : decode code 445 = .ok (.iaload, 1) := by decide +kernel
theorem d999_446 : decode code 446 = .ok (.invokevirtual 60, 3) := by decide +kernel
theorem d999_449 : decode code 449 = .ok (.lcmp, 1) := by decide +kernel
theorem d999_450 : decode code 450 = .ok (.ifCond .eq 28, 3) := by decide +kernel
theorem d999_453 : decode code 453 = .ok (.iconst 0, 1) := by decide +kernel
theorem d999_454 : decode code 454 = .ok (.ireturn, 1) := by decide +kernel
theorem d999_455 : decode code 455 = .ok (.aload_n 1, 1) := by decide +kernel
theorem d999_456 : decode code 456 = .ok (.aload_n 0, 1) := by decide +kernel
theorem d999_457 : decode code 457 = .ok (.iload_n 3, 1) := by decide +kernel
theorem d999_458 : decode code 458 = .ok (.iconst 1, 1) := by decide +kernel
theorem d999_459 : decode code 459 = .ok (.iadd, 1) := by decide +kernel
theorem d999_460 : decode code 460 = .ok (.iaload, 1) := by decide +kernel
theorem d999_461 : decode code 461 = .ok (.invokevirtual 61, 3) := by decide +kernel
theorem d999_464 : decode code 464 = .ok (.aload_n 2, 1) := by decide +kernel
theorem d999_465 : decode code 465 = .ok (.aload_n 0, 1) := by decide +kernel
theorem d999_466 : decode code 466 = .ok (.iload_n 3, 1) := by decide +kernel
theorem d999_467 : decode code 467 = .ok (.iconst 1, 1) := by decide +kernel
theorem d999_468 : decode code 468 = .ok (.iadd, 1) := by decide +kernel
theorem d999_469 : decode code 469 = .ok (.iaload, 1) := by decide +kernel
theorem d999_470 : decode code 470 = .ok (.invokevirtual 64, 3) := by decide +kernel
theorem d999_473 : decode code 473 = .ok (.if_icmp .eq 5, 3) := by decide +kernel
theorem d999_476 : decode code 476 = .ok (.iconst 0, 1) := by decide +kernel
theorem d999_477 : decode code 477 = .ok (.ireturn, 1) := by decide +kernel
theorem d999_478 : decode code 478 = .ok (.iinc 3 6, 3) := by decide +kernel
theorem d999_481 : decode code 481 = .ok (.goto (-463), 3) := by decide +kernel
theorem d999_484 : decode code 484 = .ok (.iconst 1, 1) := by decide +kernel
theorem d999_485 : decode code 485 = .ok (.ireturn, 1) := by decide +kernel

/-! decode rows, printed by a program of mine out of the listing -/
theorem d96_0 : decode prog_10_method_36_code 0 = .ok (.aload_n 0, 1) := by decide +kernel
theorem d96_1 : decode prog_10_method_36_code 1 = .ok (.getfield 103, 3) := by decide +kernel
theorem d96_4 : decode prog_10_method_36_code 4 = .ok (.iconst 1, 1) := by decide +kernel
theorem d96_5 : decode prog_10_method_36_code 5 = .ok (.isub, 1) := by decide +kernel
theorem d96_6 : decode prog_10_method_36_code 6 = .ok (.istore_n 2, 1) := by decide +kernel
theorem d96_7 : decode prog_10_method_36_code 7 = .ok (.aload_n 0, 1) := by decide +kernel
theorem d96_8 : decode prog_10_method_36_code 8 = .ok (.getfield 82, 3) := by decide +kernel
theorem d96_11 : decode prog_10_method_36_code 11 = .ok (.aload_n 0, 1) := by decide +kernel
theorem d96_12 : decode prog_10_method_36_code 12 = .ok (.getfield 106, 3) := by decide +kernel
theorem d96_15 : decode prog_10_method_36_code 15 = .ok (.iaload, 1) := by decide +kernel
theorem d96_16 : decode prog_10_method_36_code 16 = .ok (.bipush 60, 2) := by decide +kernel
theorem d96_18 : decode prog_10_method_36_code 18 = .ok (.imul, 1) := by decide +kernel
theorem d96_19 : decode prog_10_method_36_code 19 = .ok (.aload_n 0, 1) := by decide +kernel
theorem d96_20 : decode prog_10_method_36_code 20 = .ok (.getfield 29, 3) := by decide +kernel
theorem d96_23 : decode prog_10_method_36_code 23 = .ok (.iload_n 1, 1) := by decide +kernel
theorem d96_24 : decode prog_10_method_36_code 24 = .ok (.iaload, 1) := by decide +kernel
theorem d96_25 : decode prog_10_method_36_code 25 = .ok (.iadd, 1) := by decide +kernel
theorem d96_26 : decode prog_10_method_36_code 26 = .ok (.istore_n 3, 1) := by decide +kernel
theorem d96_27 : decode prog_10_method_36_code 27 = .ok (.aload_n 0, 1) := by decide +kernel
theorem d96_28 : decode prog_10_method_36_code 28 = .ok (.getfield 88, 3) := by decide +kernel
theorem d96_31 : decode prog_10_method_36_code 31 = .ok (.iload_n 2, 1) := by decide +kernel
theorem d96_32 : decode prog_10_method_36_code 32 = .ok (.dup2, 1) := by decide +kernel
theorem d96_33 : decode prog_10_method_36_code 33 = .ok (.iaload, 1) := by decide +kernel
theorem d96_34 : decode prog_10_method_36_code 34 = .ok (.iconst 1, 1) := by decide +kernel
theorem d96_35 : decode prog_10_method_36_code 35 = .ok (.iadd, 1) := by decide +kernel
theorem d96_36 : decode prog_10_method_36_code 36 = .ok (.iastore, 1) := by decide +kernel
theorem d96_37 : decode prog_10_method_36_code 37 = .ok (.aload_n 0, 1) := by decide +kernel
theorem d96_38 : decode prog_10_method_36_code 38 = .ok (.getfield 88, 3) := by decide +kernel
theorem d96_41 : decode prog_10_method_36_code 41 = .ok (.iload_n 2, 1) := by decide +kernel
theorem d96_42 : decode prog_10_method_36_code 42 = .ok (.iaload, 1) := by decide +kernel
theorem d96_43 : decode prog_10_method_36_code 43 = .ok (.iconst 1, 1) := by decide +kernel
theorem d96_44 : decode prog_10_method_36_code 44 = .ok (.if_icmp .ne 52, 3) := by decide +kernel
theorem d96_47 : decode prog_10_method_36_code 47 = .ok (.aload_n 0, 1) := by decide +kernel
theorem d96_48 : decode prog_10_method_36_code 48 = .ok (.getfield 69, 3) := by decide +kernel
theorem d96_51 : decode prog_10_method_36_code 51 = .ok (.iload_n 3, 1) := by decide +kernel
theorem d96_52 : decode prog_10_method_36_code 52 = .ok (.baload, 1) := by decide +kernel
theorem d96_53 : decode prog_10_method_36_code 53 = .ok (.ifCond .eq 43, 3) := by decide +kernel
theorem d96_56 : decode prog_10_method_36_code 56 = .ok (.aload_n 0, 1) := by decide +kernel
theorem d96_57 : decode prog_10_method_36_code 57 = .ok (.getfield 88, 3) := by decide +kernel
theorem d96_60 : decode prog_10_method_36_code 60 = .ok (.iload_n 2, 1) := by decide +kernel
theorem d96_61 : decode prog_10_method_36_code 61 = .ok (.iconst 2, 1) := by decide +kernel
theorem d96_62 : decode prog_10_method_36_code 62 = .ok (.iastore, 1) := by decide +kernel
theorem d96_63 : decode prog_10_method_36_code 63 = .ok (.aload_n 0, 1) := by decide +kernel
theorem d96_64 : decode prog_10_method_36_code 64 = .ok (.aload_n 0, 1) := by decide +kernel
theorem d96_65 : decode prog_10_method_36_code 65 = .ok (.getfield 78, 3) := by decide +kernel
theorem d96_68 : decode prog_10_method_36_code 68 = .ok (.iload_n 3, 1) := by decide +kernel
theorem d96_69 : decode prog_10_method_36_code 69 = .ok (.laload, 1) := by decide +kernel
theorem d96_70 : decode prog_10_method_36_code 70 = .ok (.lconst 1, 1) := by decide +kernel
theorem d96_71 : decode prog_10_method_36_code 71 = .ok (.lcmp, 1) := by decide +kernel
theorem d96_72 : decode prog_10_method_36_code 72 = .ok (.ifCond .ne 12, 3) := by decide +kernel
theorem d96_75 : decode prog_10_method_36_code 75 = .ok (.aload_n 0, 1) := by decide +kernel
theorem d96_76 : decode prog_10_method_36_code 76 = .ok (.getfield 32, 3) := by decide +kernel
theorem d96_79 : decode prog_10_method_36_code 79 = .ok (.iload_n 1, 1) := by decide +kernel
theorem d96_80 : decode prog_10_method_36_code 80 = .ok (.iaload, 1) := by decide +kernel
theorem d96_81 : decode prog_10_method_36_code 81 = .ok (.goto 9, 3) := by decide +kernel
theorem d96_84 : decode prog_10_method_36_code 84 = .ok (.aload_n 0, 1) := by decide +kernel
theorem d96_85 : decode prog_10_method_36_code 85 = .ok (.getfield 35, 3) := by decide +kernel
theorem d96_88 : decode prog_10_method_36_code 88 = .ok (.iload_n 1, 1) := by decide +kernel
theorem d96_89 : decode prog_10_method_36_code 89 = .ok (.iaload, 1) := by decide +kernel
theorem d96_90 : decode prog_10_method_36_code 90 = .ok (.invokevirtual 232, 3) := by decide +kernel
theorem d96_93 : decode prog_10_method_36_code 93 = .ok (.goto 75, 3) := by decide +kernel
theorem d96_96 : decode prog_10_method_36_code 96 = .ok (.aload_n 0, 1) := by decide +kernel
theorem d96_97 : decode prog_10_method_36_code 97 = .ok (.getfield 88, 3) := by decide +kernel
theorem d96_100 : decode prog_10_method_36_code 100 = .ok (.iload_n 2, 1) := by decide +kernel
theorem d96_101 : decode prog_10_method_36_code 101 = .ok (.iaload, 1) := by decide +kernel
theorem d96_102 : decode prog_10_method_36_code 102 = .ok (.iconst 1, 1) := by decide +kernel
theorem d96_103 : decode prog_10_method_36_code 103 = .ok (.if_icmp .ne 16, 3) := by decide +kernel
theorem d96_106 : decode prog_10_method_36_code 106 = .ok (.aload_n 0, 1) := by decide +kernel
theorem d96_107 : decode prog_10_method_36_code 107 = .ok (.aload_n 0, 1) := by decide +kernel
theorem d96_108 : decode prog_10_method_36_code 108 = .ok (.getfield 29, 3) := by decide +kernel
theorem d96_111 : decode prog_10_method_36_code 111 = .ok (.iload_n 1, 1) := by decide +kernel
theorem d96_112 : decode prog_10_method_36_code 112 = .ok (.iaload, 1) := by decide +kernel
theorem d96_113 : decode prog_10_method_36_code 113 = .ok (.invokevirtual 232, 3) := by decide +kernel
theorem d96_116 : decode prog_10_method_36_code 116 = .ok (.goto 52, 3) := by decide +kernel
theorem d96_119 : decode prog_10_method_36_code 119 = .ok (.aload_n 0, 1) := by decide +kernel
theorem d96_120 : decode prog_10_method_36_code 120 = .ok (.getfield 88, 3) := by decide +kernel
theorem d96_123 : decode prog_10_method_36_code 123 = .ok (.iload_n 2, 1) := by decide +kernel
theorem d96_124 : decode prog_10_method_36_code 124 = .ok (.iaload, 1) := by decide +kernel
theorem d96_125 : decode prog_10_method_36_code 125 = .ok (.iconst 2, 1) := by decide +kernel
theorem d96_126 : decode prog_10_method_36_code 126 = .ok (.if_icmp .ne 34, 3) := by decide +kernel
theorem d96_129 : decode prog_10_method_36_code 129 = .ok (.aload_n 0, 1) := by decide +kernel
theorem d96_130 : decode prog_10_method_36_code 130 = .ok (.aload_n 0, 1) := by decide +kernel
theorem d96_131 : decode prog_10_method_36_code 131 = .ok (.getfield 112, 3) := by decide +kernel
theorem d96_134 : decode prog_10_method_36_code 134 = .ok (.lconst 1, 1) := by decide +kernel
theorem d96_135 : decode prog_10_method_36_code 135 = .ok (.lcmp, 1) := by decide +kernel
theorem d96_136 : decode prog_10_method_36_code 136 = .ok (.ifCond .ne 12, 3) := by decide +kernel
theorem d96_139 : decode prog_10_method_36_code 139 = .ok (.aload_n 0, 1) := by decide +kernel
theorem d96_140 : decode prog_10_method_36_code 140 = .ok (.getfield 32, 3) := by decide +kernel
theorem d96_143 : decode prog_10_method_36_code 143 = .ok (.iload_n 1, 1) := by decide +kernel
theorem d96_144 : decode prog_10_method_36_code 144 = .ok (.iaload, 1) := by decide +kernel
theorem d96_145 : decode prog_10_method_36_code 145 = .ok (.goto 9, 3) := by decide +kernel
theorem d96_148 : decode prog_10_method_36_code 148 = .ok (.aload_n 0, 1) := by decide +kernel
theorem d96_149 : decode prog_10_method_36_code 149 = .ok (.getfield 35, 3) := by decide +kernel
theorem d96_152 : decode prog_10_method_36_code 152 = .ok (.iload_n 1, 1) := by decide +kernel
theorem d96_153 : decode prog_10_method_36_code 153 = .ok (.iaload, 1) := by decide +kernel
theorem d96_154 : decode prog_10_method_36_code 154 = .ok (.invokevirtual 232, 3) := by decide +kernel
theorem d96_157 : decode prog_10_method_36_code 157 = .ok (.goto 11, 3) := by decide +kernel
theorem d96_160 : decode prog_10_method_36_code 160 = .ok (.aload_n 0, 1) := by decide +kernel
theorem d96_161 : decode prog_10_method_36_code 161 = .ok (.aload_n 0, 1) := by decide +kernel
theorem d96_162 : decode prog_10_method_36_code 162 = .ok (.getfield 112, 3) := by decide +kernel
theorem d96_165 : decode prog_10_method_36_code 165 = .ok (.invokevirtual 235, 3) := by decide +kernel
theorem d96_168 : decode prog_10_method_36_code 168 = .ok (.return_, 1) := by decide +kernel
theorem d97_0 : decode prog_10_method_37_code 0 = .ok (.aload_n 0, 1) := by decide +kernel
theorem d97_1 : decode prog_10_method_37_code 1 = .ok (.getfield 88, 3) := by decide +kernel
theorem d97_4 : decode prog_10_method_37_code 4 = .ok (.aload_n 0, 1) := by decide +kernel
theorem d97_5 : decode prog_10_method_37_code 5 = .ok (.getfield 103, 3) := by decide +kernel
theorem d97_8 : decode prog_10_method_37_code 8 = .ok (.iconst 1, 1) := by decide +kernel
theorem d97_9 : decode prog_10_method_37_code 9 = .ok (.isub, 1) := by decide +kernel
theorem d97_10 : decode prog_10_method_37_code 10 = .ok (.dup2, 1) := by decide +kernel
theorem d97_11 : decode prog_10_method_37_code 11 = .ok (.iaload, 1) := by decide +kernel
theorem d97_12 : decode prog_10_method_37_code 12 = .ok (.iconst 1, 1) := by decide +kernel
theorem d97_13 : decode prog_10_method_37_code 13 = .ok (.iadd, 1) := by decide +kernel
theorem d97_14 : decode prog_10_method_37_code 14 = .ok (.iastore, 1) := by decide +kernel
theorem d97_15 : decode prog_10_method_37_code 15 = .ok (.aload_n 0, 1) := by decide +kernel
theorem d97_16 : decode prog_10_method_37_code 16 = .ok (.getfield 88, 3) := by decide +kernel
theorem d97_19 : decode prog_10_method_37_code 19 = .ok (.aload_n 0, 1) := by decide +kernel
theorem d97_20 : decode prog_10_method_37_code 20 = .ok (.getfield 103, 3) := by decide +kernel
theorem d97_23 : decode prog_10_method_37_code 23 = .ok (.iconst 1, 1) := by decide +kernel
theorem d97_24 : decode prog_10_method_37_code 24 = .ok (.isub, 1) := by decide +kernel
theorem d97_25 : decode prog_10_method_37_code 25 = .ok (.iaload, 1) := by decide +kernel
theorem d97_26 : decode prog_10_method_37_code 26 = .ok (.iconst 1, 1) := by decide +kernel
theorem d97_27 : decode prog_10_method_37_code 27 = .ok (.if_icmp .ne 16, 3) := by decide +kernel
theorem d97_30 : decode prog_10_method_37_code 30 = .ok (.aload_n 0, 1) := by decide +kernel
theorem d97_31 : decode prog_10_method_37_code 31 = .ok (.aload_n 0, 1) := by decide +kernel
theorem d97_32 : decode prog_10_method_37_code 32 = .ok (.getfield 29, 3) := by decide +kernel
theorem d97_35 : decode prog_10_method_37_code 35 = .ok (.iload_n 1, 1) := by decide +kernel
theorem d97_36 : decode prog_10_method_37_code 36 = .ok (.iaload, 1) := by decide +kernel
theorem d97_37 : decode prog_10_method_37_code 37 = .ok (.invokevirtual 232, 3) := by decide +kernel
theorem d97_40 : decode prog_10_method_37_code 40 = .ok (.goto 51, 3) := by decide +kernel
theorem d97_43 : decode prog_10_method_37_code 43 = .ok (.aload_n 0, 1) := by decide +kernel
theorem d97_44 : decode prog_10_method_37_code 44 = .ok (.aload_n 0, 1) := by decide +kernel
theorem d97_45 : decode prog_10_method_37_code 45 = .ok (.getfield 72, 3) := by decide +kernel
theorem d97_48 : decode prog_10_method_37_code 48 = .ok (.aload_n 0, 1) := by decide +kernel
theorem d97_49 : decode prog_10_method_37_code 49 = .ok (.getfield 82, 3) := by decide +kernel
theorem d97_52 : decode prog_10_method_37_code 52 = .ok (.aload_n 0, 1) := by decide +kernel
theorem d97_53 : decode prog_10_method_37_code 53 = .ok (.getfield 106, 3) := by decide +kernel
theorem d97_56 : decode prog_10_method_37_code 56 = .ok (.iaload, 1) := by decide +kernel
theorem d97_57 : decode prog_10_method_37_code 57 = .ok (.bipush 60, 2) := by decide +kernel
theorem d97_59 : decode prog_10_method_37_code 59 = .ok (.imul, 1) := by decide +kernel
theorem d97_60 : decode prog_10_method_37_code 60 = .ok (.iload_n 1, 1) := by decide +kernel
theorem d97_61 : decode prog_10_method_37_code 61 = .ok (.iadd, 1) := by decide +kernel
theorem d97_62 : decode prog_10_method_37_code 62 = .ok (.iaload, 1) := by decide +kernel
theorem d97_63 : decode prog_10_method_37_code 63 = .ok (.aload_n 0, 1) := by decide +kernel
theorem d97_64 : decode prog_10_method_37_code 64 = .ok (.getfield 112, 3) := by decide +kernel
theorem d97_67 : decode prog_10_method_37_code 67 = .ok (.invokevirtual 168, 3) := by decide +kernel
theorem d97_70 : decode prog_10_method_37_code 70 = .ok (.ifCond .eq 14, 3) := by decide +kernel
theorem d97_73 : decode prog_10_method_37_code 73 = .ok (.aload_n 0, 1) := by decide +kernel
theorem d97_74 : decode prog_10_method_37_code 74 = .ok (.aload_n 0, 1) := by decide +kernel
theorem d97_75 : decode prog_10_method_37_code 75 = .ok (.getfield 112, 3) := by decide +kernel
theorem d97_78 : decode prog_10_method_37_code 78 = .ok (.invokevirtual 235, 3) := by decide +kernel
theorem d97_81 : decode prog_10_method_37_code 81 = .ok (.goto 10, 3) := by decide +kernel
theorem d97_84 : decode prog_10_method_37_code 84 = .ok (.aload_n 0, 1) := by decide +kernel
theorem d97_85 : decode prog_10_method_37_code 85 = .ok (.ldc2_w 174, 3) := by decide +kernel
theorem d97_88 : decode prog_10_method_37_code 88 = .ok (.putfield 116, 3) := by decide +kernel
theorem d97_91 : decode prog_10_method_37_code 91 = .ok (.return_, 1) := by decide +kernel
theorem d98_0 : decode prog_10_method_38_code 0 = .ok (.aload_n 0, 1) := by decide +kernel
theorem d98_1 : decode prog_10_method_38_code 1 = .ok (.getfield 103, 3) := by decide +kernel
theorem d98_4 : decode prog_10_method_38_code 4 = .ok (.iconst 1, 1) := by decide +kernel
theorem d98_5 : decode prog_10_method_38_code 5 = .ok (.isub, 1) := by decide +kernel
theorem d98_6 : decode prog_10_method_38_code 6 = .ok (.istore_n 2, 1) := by decide +kernel
theorem d98_7 : decode prog_10_method_38_code 7 = .ok (.aload_n 0, 1) := by decide +kernel
theorem d98_8 : decode prog_10_method_38_code 8 = .ok (.getfield 29, 3) := by decide +kernel
theorem d98_11 : decode prog_10_method_38_code 11 = .ok (.iload_n 1, 1) := by decide +kernel
theorem d98_12 : decode prog_10_method_38_code 12 = .ok (.iaload, 1) := by decide +kernel
theorem d98_13 : decode prog_10_method_38_code 13 = .ok (.istore_n 3, 1) := by decide +kernel
theorem d98_14 : decode prog_10_method_38_code 14 = .ok (.aload_n 0, 1) := by decide +kernel
theorem d98_15 : decode prog_10_method_38_code 15 = .ok (.getfield 88, 3) := by decide +kernel
theorem d98_18 : decode prog_10_method_38_code 18 = .ok (.iload_n 2, 1) := by decide +kernel
theorem d98_19 : decode prog_10_method_38_code 19 = .ok (.iaload, 1) := by decide +kernel
theorem d98_20 : decode prog_10_method_38_code 20 = .ok (.ifCond .ne 19, 3) := by decide +kernel
theorem d98_23 : decode prog_10_method_38_code 23 = .ok (.aload_n 0, 1) := by decide +kernel
theorem d98_24 : decode prog_10_method_38_code 24 = .ok (.getfield 106, 3) := by decide +kernel
theorem d98_27 : decode prog_10_method_38_code 27 = .ok (.iconst 5, 1) := by decide +kernel
theorem d98_28 : decode prog_10_method_38_code 28 = .ok (.if_icmp .ne 11, 3) := by decide +kernel
theorem d98_31 : decode prog_10_method_38_code 31 = .ok (.aload_n 0, 1) := by decide +kernel
theorem d98_32 : decode prog_10_method_38_code 32 = .ok (.ldc2_w 239, 3) := by decide +kernel
theorem d98_35 : decode prog_10_method_38_code 35 = .ok (.putfield 116, 3) := by decide +kernel
theorem d98_38 : decode prog_10_method_38_code 38 = .ok (.return_, 1) := by decide +kernel
theorem d98_39 : decode prog_10_method_38_code 39 = .ok (.aload_n 0, 1) := by decide +kernel
theorem d98_40 : decode prog_10_method_38_code 40 = .ok (.getfield 88, 3) := by decide +kernel
theorem d98_43 : decode prog_10_method_38_code 43 = .ok (.iload_n 2, 1) := by decide +kernel
theorem d98_44 : decode prog_10_method_38_code 44 = .ok (.iaload, 1) := by decide +kernel
theorem d98_45 : decode prog_10_method_38_code 45 = .ok (.iconst 1, 1) := by decide +kernel
theorem d98_46 : decode prog_10_method_38_code 46 = .ok (.if_icmp .ne 13, 3) := by decide +kernel
theorem d98_49 : decode prog_10_method_38_code 49 = .ok (.aload_n 0, 1) := by decide +kernel
theorem d98_50 : decode prog_10_method_38_code 50 = .ok (.getfield 97, 3) := by decide +kernel
theorem d98_53 : decode prog_10_method_38_code 53 = .ok (.iload_n 2, 1) := by decide +kernel
theorem d98_54 : decode prog_10_method_38_code 54 = .ok (.aload_n 0, 1) := by decide +kernel
theorem d98_55 : decode prog_10_method_38_code 55 = .ok (.getfield 112, 3) := by decide +kernel
theorem d98_58 : decode prog_10_method_38_code 58 = .ok (.lastore, 1) := by decide +kernel
theorem d98_59 : decode prog_10_method_38_code 59 = .ok (.aload_n 0, 1) := by decide +kernel
theorem d98_60 : decode prog_10_method_38_code 60 = .ok (.getfield 88, 3) := by decide +kernel
theorem d98_63 : decode prog_10_method_38_code 63 = .ok (.iload_n 2, 1) := by decide +kernel
theorem d98_64 : decode prog_10_method_38_code 64 = .ok (.iaload, 1) := by decide +kernel
theorem d98_65 : decode prog_10_method_38_code 65 = .ok (.iconst 2, 1) := by decide +kernel
theorem d98_66 : decode prog_10_method_38_code 66 = .ok (.if_icmp .ne 13, 3) := by decide +kernel
theorem d98_69 : decode prog_10_method_38_code 69 = .ok (.aload_n 0, 1) := by decide +kernel
theorem d98_70 : decode prog_10_method_38_code 70 = .ok (.getfield 100, 3) := by decide +kernel
theorem d98_73 : decode prog_10_method_38_code 73 = .ok (.iload_n 2, 1) := by decide +kernel
theorem d98_74 : decode prog_10_method_38_code 74 = .ok (.aload_n 0, 1) := by decide +kernel
theorem d98_75 : decode prog_10_method_38_code 75 = .ok (.getfield 112, 3) := by decide +kernel
theorem d98_78 : decode prog_10_method_38_code 78 = .ok (.lastore, 1) := by decide +kernel
theorem d98_79 : decode prog_10_method_38_code 79 = .ok (.aload_n 0, 1) := by decide +kernel
theorem d98_80 : decode prog_10_method_38_code 80 = .ok (.getfield 88, 3) := by decide +kernel
theorem d98_83 : decode prog_10_method_38_code 83 = .ok (.iload_n 2, 1) := by decide +kernel
theorem d98_84 : decode prog_10_method_38_code 84 = .ok (.dup2, 1) := by decide +kernel
theorem d98_85 : decode prog_10_method_38_code 85 = .ok (.iaload, 1) := by decide +kernel
theorem d98_86 : decode prog_10_method_38_code 86 = .ok (.iconst 1, 1) := by decide +kernel
theorem d98_87 : decode prog_10_method_38_code 87 = .ok (.iadd, 1) := by decide +kernel
theorem d98_88 : decode prog_10_method_38_code 88 = .ok (.iastore, 1) := by decide +kernel
theorem d98_89 : decode prog_10_method_38_code 89 = .ok (.aload_n 0, 1) := by decide +kernel
theorem d98_90 : decode prog_10_method_38_code 90 = .ok (.getfield 88, 3) := by decide +kernel
theorem d98_93 : decode prog_10_method_38_code 93 = .ok (.iload_n 2, 1) := by decide +kernel
theorem d98_94 : decode prog_10_method_38_code 94 = .ok (.iaload, 1) := by decide +kernel
theorem d98_95 : decode prog_10_method_38_code 95 = .ok (.iconst 1, 1) := by decide +kernel
theorem d98_96 : decode prog_10_method_38_code 96 = .ok (.if_icmp .ne 37, 3) := by decide +kernel
theorem d98_99 : decode prog_10_method_38_code 99 = .ok (.aload_n 0, 1) := by decide +kernel
theorem d98_100 : decode prog_10_method_38_code 100 = .ok (.getfield 32, 3) := by decide +kernel
theorem d98_103 : decode prog_10_method_38_code 103 = .ok (.iload_n 1, 1) := by decide +kernel
theorem d98_104 : decode prog_10_method_38_code 104 = .ok (.iaload, 1) := by decide +kernel
theorem d98_105 : decode prog_10_method_38_code 105 = .ok (.ifCond .lt 195, 3) := by decide +kernel
theorem d98_108 : decode prog_10_method_38_code 108 = .ok (.aload_n 0, 1) := by decide +kernel
theorem d98_109 : decode prog_10_method_38_code 109 = .ok (.getfield 45, 3) := by decide +kernel
theorem d98_112 : decode prog_10_method_38_code 112 = .ok (.iload_n 3, 1) := by decide +kernel
theorem d98_113 : decode prog_10_method_38_code 113 = .ok (.iaload, 1) := by decide +kernel
theorem d98_114 : decode prog_10_method_38_code 114 = .ok (.sipush 300, 3) := by decide +kernel
theorem d98_117 : decode prog_10_method_38_code 117 = .ok (.if_icmp .eq 183, 3) := by decide +kernel
theorem d98_120 : decode prog_10_method_38_code 120 = .ok (.aload_n 0, 1) := by decide +kernel
theorem d98_121 : decode prog_10_method_38_code 121 = .ok (.aload_n 0, 1) := by decide +kernel
theorem d98_122 : decode prog_10_method_38_code 122 = .ok (.getfield 32, 3) := by decide +kernel
theorem d98_125 : decode prog_10_method_38_code 125 = .ok (.iload_n 1, 1) := by decide +kernel
theorem d98_126 : decode prog_10_method_38_code 126 = .ok (.iaload, 1) := by decide +kernel
theorem d98_127 : decode prog_10_method_38_code 127 = .ok (.invokevirtual 232, 3) := by decide +kernel
theorem d98_130 : decode prog_10_method_38_code 130 = .ok (.goto 170, 3) := by decide +kernel
theorem d98_133 : decode prog_10_method_38_code 133 = .ok (.aload_n 0, 1) := by decide +kernel
theorem d98_134 : decode prog_10_method_38_code 134 = .ok (.getfield 88, 3) := by decide +kernel
theorem d98_137 : decode prog_10_method_38_code 137 = .ok (.iload_n 2, 1) := by decide +kernel
theorem d98_138 : decode prog_10_method_38_code 138 = .ok (.iaload, 1) := by decide +kernel
theorem d98_139 : decode prog_10_method_38_code 139 = .ok (.iconst 2, 1) := by decide +kernel
theorem d98_140 : decode prog_10_method_38_code 140 = .ok (.if_icmp .ne 37, 3) := by decide +kernel
theorem d98_143 : decode prog_10_method_38_code 143 = .ok (.aload_n 0, 1) := by decide +kernel
theorem d98_144 : decode prog_10_method_38_code 144 = .ok (.getfield 35, 3) := by decide +kernel
theorem d98_147 : decode prog_10_method_38_code 147 = .ok (.iload_n 1, 1) := by decide +kernel
theorem d98_148 : decode prog_10_method_38_code 148 = .ok (.iaload, 1) := by decide +kernel
theorem d98_149 : decode prog_10_method_38_code 149 = .ok (.ifCond .lt 151, 3) := by decide +kernel
theorem d98_152 : decode prog_10_method_38_code 152 = .ok (.aload_n 0, 1) := by decide +kernel
theorem d98_153 : decode prog_10_method_38_code 153 = .ok (.getfield 48, 3) := by decide +kernel
theorem d98_156 : decode prog_10_method_38_code 156 = .ok (.iload_n 3, 1) := by decide +kernel
theorem d98_157 : decode prog_10_method_38_code 157 = .ok (.iaload, 1) := by decide +kernel
theorem d98_158 : decode prog_10_method_38_code 158 = .ok (.sipush 300, 3) := by decide +kernel
theorem d98_161 : decode prog_10_method_38_code 161 = .ok (.if_icmp .eq 139, 3) := by decide +kernel
theorem d98_164 : decode prog_10_method_38_code 164 = .ok (.aload_n 0, 1) := by decide +kernel
theorem d98_165 : decode prog_10_method_38_code 165 = .ok (.aload_n 0, 1) := by decide +kernel
theorem d98_166 : decode prog_10_method_38_code 166 = .ok (.getfield 35, 3) := by decide +kernel
theorem d98_169 : decode prog_10_method_38_code 169 = .ok (.iload_n 1, 1) := by decide +kernel
theorem d98_170 : decode prog_10_method_38_code 170 = .ok (.iaload, 1) := by decide +kernel
theorem d98_171 : decode prog_10_method_38_code 171 = .ok (.invokevirtual 232, 3) := by decide +kernel
theorem d98_174 : decode prog_10_method_38_code 174 = .ok (.goto 126, 3) := by decide +kernel
theorem d98_177 : decode prog_10_method_38_code 177 = .ok (.aload_n 0, 1) := by decide +kernel
theorem d98_178 : decode prog_10_method_38_code 178 = .ok (.getfield 88, 3) := by decide +kernel
theorem d98_181 : decode prog_10_method_38_code 181 = .ok (.iload_n 2, 1) := by decide +kernel
theorem d98_182 : decode prog_10_method_38_code 182 = .ok (.iaload, 1) := by decide +kernel
theorem d98_183 : decode prog_10_method_38_code 183 = .ok (.iconst 3, 1) := by decide +kernel
theorem d98_184 : decode prog_10_method_38_code 184 = .ok (.if_icmp .ne 98, 3) := by decide +kernel
theorem d98_187 : decode prog_10_method_38_code 187 = .ok (.aload_n 0, 1) := by decide +kernel
theorem d98_188 : decode prog_10_method_38_code 188 = .ok (.getfield 75, 3) := by decide +kernel
theorem d98_191 : decode prog_10_method_38_code 191 = .ok (.aload_n 0, 1) := by decide +kernel
theorem d98_192 : decode prog_10_method_38_code 192 = .ok (.getfield 82, 3) := by decide +kernel
theorem d98_195 : decode prog_10_method_38_code 195 = .ok (.aload_n 0, 1) := by decide +kernel
theorem d98_196 : decode prog_10_method_38_code 196 = .ok (.getfield 106, 3) := by decide +kernel
theorem d98_199 : decode prog_10_method_38_code 199 = .ok (.iaload, 1) := by decide +kernel
theorem d98_200 : decode prog_10_method_38_code 200 = .ok (.bipush 60, 2) := by decide +kernel
theorem d98_202 : decode prog_10_method_38_code 202 = .ok (.imul, 1) := by decide +kernel
theorem d98_203 : decode prog_10_method_38_code 203 = .ok (.iload_n 1, 1) := by decide +kernel
theorem d98_204 : decode prog_10_method_38_code 204 = .ok (.iadd, 1) := by decide +kernel
theorem d98_205 : decode prog_10_method_38_code 205 = .ok (.iaload, 1) := by decide +kernel
theorem d98_206 : decode prog_10_method_38_code 206 = .ok (.istore 4, 2) := by decide +kernel
theorem d98_208 : decode prog_10_method_38_code 208 = .ok (.aload_n 0, 1) := by decide +kernel
theorem d98_209 : decode prog_10_method_38_code 209 = .ok (.dup, 1) := by decide +kernel
theorem d98_210 : decode prog_10_method_38_code 210 = .ok (.getfield 106, 3) := by decide +kernel
theorem d98_213 : decode prog_10_method_38_code 213 = .ok (.iconst 1, 1) := by decide +kernel
theorem d98_214 : decode prog_10_method_38_code 214 = .ok (.iadd, 1) := by decide +kernel
theorem d98_215 : decode prog_10_method_38_code 215 = .ok (.putfield 106, 3) := by decide +kernel
theorem d98_218 : decode prog_10_method_38_code 218 = .ok (.aload_n 0, 1) := by decide +kernel
theorem d98_219 : decode prog_10_method_38_code 219 = .ok (.dup, 1) := by decide +kernel
theorem d98_220 : decode prog_10_method_38_code 220 = .ok (.getfield 22, 3) := by decide +kernel
theorem d98_223 : decode prog_10_method_38_code 223 = .ok (.iconst 1, 1) := by decide +kernel
theorem d98_224 : decode prog_10_method_38_code 224 = .ok (.iadd, 1) := by decide +kernel
theorem d98_225 : decode prog_10_method_38_code 225 = .ok (.putfield 22, 3) := by decide +kernel
theorem d98_228 : decode prog_10_method_38_code 228 = .ok (.aload_n 0, 1) := by decide +kernel
theorem d98_229 : decode prog_10_method_38_code 229 = .ok (.getfield 82, 3) := by decide +kernel
theorem d98_232 : decode prog_10_method_38_code 232 = .ok (.aload_n 0, 1) := by decide +kernel
theorem d98_233 : decode prog_10_method_38_code 233 = .ok (.getfield 106, 3) := by decide +kernel
theorem d98_236 : decode prog_10_method_38_code 236 = .ok (.iload 4, 2) := by decide +kernel
theorem d98_238 : decode prog_10_method_38_code 238 = .ok (.iastore, 1) := by decide +kernel
theorem d98_239 : decode prog_10_method_38_code 239 = .ok (.aload_n 0, 1) := by decide +kernel
theorem d98_240 : decode prog_10_method_38_code 240 = .ok (.getfield 91, 3) := by decide +kernel
theorem d98_243 : decode prog_10_method_38_code 243 = .ok (.aload_n 0, 1) := by decide +kernel
theorem d98_244 : decode prog_10_method_38_code 244 = .ok (.getfield 106, 3) := by decide +kernel
theorem d98_247 : decode prog_10_method_38_code 247 = .ok (.aload_n 0, 1) := by decide +kernel
theorem d98_248 : decode prog_10_method_38_code 248 = .ok (.getfield 97, 3) := by decide +kernel
theorem d98_251 : decode prog_10_method_38_code 251 = .ok (.iload_n 2, 1) := by decide +kernel
theorem d98_252 : decode prog_10_method_38_code 252 = .ok (.laload, 1) := by decide +kernel
theorem d98_253 : decode prog_10_method_38_code 253 = .ok (.lastore, 1) := by decide +kernel
theorem d98_254 : decode prog_10_method_38_code 254 = .ok (.aload_n 0, 1) := by decide +kernel
theorem d98_255 : decode prog_10_method_38_code 255 = .ok (.getfield 94, 3) := by decide +kernel
theorem d98_258 : decode prog_10_method_38_code 258 = .ok (.aload_n 0, 1) := by decide +kernel
theorem d98_259 : decode prog_10_method_38_code 259 = .ok (.getfield 106, 3) := by decide +kernel
theorem d98_262 : decode prog_10_method_38_code 262 = .ok (.aload_n 0, 1) := by decide +kernel
theorem d98_263 : decode prog_10_method_38_code 263 = .ok (.getfield 100, 3) := by decide +kernel
theorem d98_266 : decode prog_10_method_38_code 266 = .ok (.iload_n 2, 1) := by decide +kernel
theorem d98_267 : decode prog_10_method_38_code 267 = .ok (.laload, 1) := by decide +kernel
theorem d98_268 : decode prog_10_method_38_code 268 = .ok (.lastore, 1) := by decide +kernel
theorem d98_269 : decode prog_10_method_38_code 269 = .ok (.aload_n 0, 1) := by decide +kernel
theorem d98_270 : decode prog_10_method_38_code 270 = .ok (.aload_n 0, 1) := by decide +kernel
theorem d98_271 : decode prog_10_method_38_code 271 = .ok (.getfield 54, 3) := by decide +kernel
theorem d98_274 : decode prog_10_method_38_code 274 = .ok (.iload_n 3, 1) := by decide +kernel
theorem d98_275 : decode prog_10_method_38_code 275 = .ok (.iaload, 1) := by decide +kernel
theorem d98_276 : decode prog_10_method_38_code 276 = .ok (.invokevirtual 232, 3) := by decide +kernel
theorem d98_279 : decode prog_10_method_38_code 279 = .ok (.goto 21, 3) := by decide +kernel
theorem d98_282 : decode prog_10_method_38_code 282 = .ok (.aload_n 0, 1) := by decide +kernel
theorem d98_283 : decode prog_10_method_38_code 283 = .ok (.dup, 1) := by decide +kernel
theorem d98_284 : decode prog_10_method_38_code 284 = .ok (.getfield 106, 3) := by decide +kernel
theorem d98_287 : decode prog_10_method_38_code 287 = .ok (.iconst 1, 1) := by decide +kernel
theorem d98_288 : decode prog_10_method_38_code 288 = .ok (.isub, 1) := by decide +kernel
theorem d98_289 : decode prog_10_method_38_code 289 = .ok (.putfield 106, 3) := by decide +kernel
theorem d98_292 : decode prog_10_method_38_code 292 = .ok (.aload_n 0, 1) := by decide +kernel
theorem d98_293 : decode prog_10_method_38_code 293 = .ok (.aload_n 0, 1) := by decide +kernel
theorem d98_294 : decode prog_10_method_38_code 294 = .ok (.getfield 112, 3) := by decide +kernel
theorem d98_297 : decode prog_10_method_38_code 297 = .ok (.invokevirtual 235, 3) := by decide +kernel
theorem d98_300 : decode prog_10_method_38_code 300 = .ok (.return_, 1) := by decide +kernel
theorem d99_0 : decode prog_10_method_39_code 0 = .ok (.aload_n 0, 1) := by decide +kernel
theorem d99_1 : decode prog_10_method_39_code 1 = .ok (.iload_n 1, 1) := by decide +kernel
theorem d99_2 : decode prog_10_method_39_code 2 = .ok (.iload_n 2, 1) := by decide +kernel
theorem d99_3 : decode prog_10_method_39_code 3 = .ok (.invokevirtual 188, 3) := by decide +kernel
theorem d99_6 : decode prog_10_method_39_code 6 = .ok (.istore 4, 2) := by decide +kernel
theorem d99_8 : decode prog_10_method_39_code 8 = .ok (.iload 4, 2) := by decide +kernel
theorem d99_10 : decode prog_10_method_39_code 10 = .ok (.ifCond .ne 20, 3) := by decide +kernel
theorem d99_13 : decode prog_10_method_39_code 13 = .ok (.iload_n 3, 1) := by decide +kernel
theorem d99_14 : decode prog_10_method_39_code 14 = .ok (.ifCond .eq 12, 3) := by decide +kernel
theorem d99_17 : decode prog_10_method_39_code 17 = .ok (.iload_n 3, 1) := by decide +kernel
theorem d99_18 : decode prog_10_method_39_code 18 = .ok (.iconst 1, 1) := by decide +kernel
theorem d99_19 : decode prog_10_method_39_code 19 = .ok (.if_icmp .eq 7, 3) := by decide +kernel
theorem d99_22 : decode prog_10_method_39_code 22 = .ok (.iconst 1, 1) := by decide +kernel
theorem d99_23 : decode prog_10_method_39_code 23 = .ok (.goto 32, 3) := by decide +kernel
theorem d99_26 : decode prog_10_method_39_code 26 = .ok (.iconst 0, 1) := by decide +kernel
theorem d99_27 : decode prog_10_method_39_code 27 = .ok (.goto 28, 3) := by decide +kernel
theorem d99_30 : decode prog_10_method_39_code 30 = .ok (.aload_n 0, 1) := by decide +kernel
theorem d99_31 : decode prog_10_method_39_code 31 = .ok (.iload 4, 2) := by decide +kernel
theorem d99_33 : decode prog_10_method_39_code 33 = .ok (.invokevirtual 165, 3) := by decide +kernel
theorem d99_36 : decode prog_10_method_39_code 36 = .ok (.ifCond .eq 18, 3) := by decide +kernel
theorem d99_39 : decode prog_10_method_39_code 39 = .ok (.aload_n 0, 1) := by decide +kernel
theorem d99_40 : decode prog_10_method_39_code 40 = .ok (.iload 4, 2) := by decide +kernel
theorem d99_42 : decode prog_10_method_39_code 42 = .ok (.iload_n 3, 1) := by decide +kernel
theorem d99_43 : decode prog_10_method_39_code 43 = .ok (.i2l, 1) := by decide +kernel
theorem d99_44 : decode prog_10_method_39_code 44 = .ok (.invokevirtual 168, 3) := by decide +kernel
theorem d99_47 : decode prog_10_method_39_code 47 = .ok (.ifCond .ne 7, 3) := by decide +kernel
theorem d99_50 : decode prog_10_method_39_code 50 = .ok (.iconst 1, 1) := by decide +kernel
theorem d99_51 : decode prog_10_method_39_code 51 = .ok (.goto 4, 3) := by decide +kernel
theorem d99_54 : decode prog_10_method_39_code 54 = .ok (.iconst 0, 1) := by decide +kernel
theorem d99_55 : decode prog_10_method_39_code 55 = .ok (.ireturn, 1) := by decide +kernel
theorem d100_0 : decode prog_10_method_40_code 0 = .ok (.iload_n 1, 1) := by decide +kernel
theorem d100_1 : decode prog_10_method_40_code 1 = .ok (.ifCond .lt 51, 3) := by decide +kernel
theorem d100_4 : decode prog_10_method_40_code 4 = .ok (.iload_n 1, 1) := by decide +kernel
theorem d100_5 : decode prog_10_method_40_code 5 = .ok (.aload_n 0, 1) := by decide +kernel
theorem d100_6 : decode prog_10_method_40_code 6 = .ok (.getfield 19, 3) := by decide +kernel
theorem d100_9 : decode prog_10_method_40_code 9 = .ok (.if_icmp .ge 43, 3) := by decide +kernel
theorem d100_12 : decode prog_10_method_40_code 12 = .ok (.aload_n 0, 1) := by decide +kernel
theorem d100_13 : decode prog_10_method_40_code 13 = .ok (.iload_n 1, 1) := by decide +kernel
theorem d100_14 : decode prog_10_method_40_code 14 = .ok (.aload_n 0, 1) := by decide +kernel
theorem d100_15 : decode prog_10_method_40_code 15 = .ok (.getfield 45, 3) := by decide +kernel
theorem d100_18 : decode prog_10_method_40_code 18 = .ok (.aload_n 0, 1) := by decide +kernel
theorem d100_19 : decode prog_10_method_40_code 19 = .ok (.getfield 57, 3) := by decide +kernel
theorem d100_22 : decode prog_10_method_40_code 22 = .ok (.iload_n 1, 1) := by decide +kernel
theorem d100_23 : decode prog_10_method_40_code 23 = .ok (.iaload, 1) := by decide +kernel
theorem d100_24 : decode prog_10_method_40_code 24 = .ok (.iaload, 1) := by decide +kernel
theorem d100_25 : decode prog_10_method_40_code 25 = .ok (.iload_n 2, 1) := by decide +kernel
theorem d100_26 : decode prog_10_method_40_code 26 = .ok (.invokevirtual 241, 3) := by decide +kernel
theorem d100_29 : decode prog_10_method_40_code 29 = .ok (.ifCond .ne 23, 3) := by decide +kernel
theorem d100_32 : decode prog_10_method_40_code 32 = .ok (.aload_n 0, 1) := by decide +kernel
theorem d100_33 : decode prog_10_method_40_code 33 = .ok (.iload_n 1, 1) := by decide +kernel
theorem d100_34 : decode prog_10_method_40_code 34 = .ok (.aload_n 0, 1) := by decide +kernel
theorem d100_35 : decode prog_10_method_40_code 35 = .ok (.getfield 48, 3) := by decide +kernel
theorem d100_38 : decode prog_10_method_40_code 38 = .ok (.aload_n 0, 1) := by decide +kernel
theorem d100_39 : decode prog_10_method_40_code 39 = .ok (.getfield 57, 3) := by decide +kernel
theorem d100_42 : decode prog_10_method_40_code 42 = .ok (.iload_n 1, 1) := by decide +kernel
theorem d100_43 : decode prog_10_method_40_code 43 = .ok (.iaload, 1) := by decide +kernel
theorem d100_44 : decode prog_10_method_40_code 44 = .ok (.iaload, 1) := by decide +kernel
theorem d100_45 : decode prog_10_method_40_code 45 = .ok (.iload_n 3, 1) := by decide +kernel
theorem d100_46 : decode prog_10_method_40_code 46 = .ok (.invokevirtual 241, 3) := by decide +kernel
theorem d100_49 : decode prog_10_method_40_code 49 = .ok (.ifCond .eq 7, 3) := by decide +kernel
theorem d100_52 : decode prog_10_method_40_code 52 = .ok (.ldc2_w 245, 3) := by decide +kernel
theorem d100_55 : decode prog_10_method_40_code 55 = .ok (.lreturn, 1) := by decide +kernel
theorem d100_56 : decode prog_10_method_40_code 56 = .ok (.aload_n 0, 1) := by decide +kernel
theorem d100_57 : decode prog_10_method_40_code 57 = .ok (.iconst 0, 1) := by decide +kernel
theorem d100_58 : decode prog_10_method_40_code 58 = .ok (.putfield 106, 3) := by decide +kernel
theorem d100_61 : decode prog_10_method_40_code 61 = .ok (.aload_n 0, 1) := by decide +kernel
theorem d100_62 : decode prog_10_method_40_code 62 = .ok (.iconst 0, 1) := by decide +kernel
theorem d100_63 : decode prog_10_method_40_code 63 = .ok (.putfield 103, 3) := by decide +kernel
theorem d100_66 : decode prog_10_method_40_code 66 = .ok (.aload_n 0, 1) := by decide +kernel
theorem d100_67 : decode prog_10_method_40_code 67 = .ok (.iconst 0, 1) := by decide +kernel
theorem d100_68 : decode prog_10_method_40_code 68 = .ok (.putfield 109, 3) := by decide +kernel
theorem d100_71 : decode prog_10_method_40_code 71 = .ok (.aload_n 0, 1) := by decide +kernel
theorem d100_72 : decode prog_10_method_40_code 72 = .ok (.iconst 0, 1) := by decide +kernel
theorem d100_73 : decode prog_10_method_40_code 73 = .ok (.putfield 22, 3) := by decide +kernel
theorem d100_76 : decode prog_10_method_40_code 76 = .ok (.aload_n 0, 1) := by decide +kernel
theorem d100_77 : decode prog_10_method_40_code 77 = .ok (.lconst 0, 1) := by decide +kernel
theorem d100_78 : decode prog_10_method_40_code 78 = .ok (.putfield 116, 3) := by decide +kernel
theorem d100_81 : decode prog_10_method_40_code 81 = .ok (.aload_n 0, 1) := by decide +kernel
theorem d100_82 : decode prog_10_method_40_code 82 = .ok (.getfield 82, 3) := by decide +kernel
theorem d100_85 : decode prog_10_method_40_code 85 = .ok (.iconst 0, 1) := by decide +kernel
theorem d100_86 : decode prog_10_method_40_code 86 = .ok (.iload_n 1, 1) := by decide +kernel
theorem d100_87 : decode prog_10_method_40_code 87 = .ok (.iastore, 1) := by decide +kernel
theorem d100_88 : decode prog_10_method_40_code 88 = .ok (.aload_n 0, 1) := by decide +kernel
theorem d100_89 : decode prog_10_method_40_code 89 = .ok (.getfield 91, 3) := by decide +kernel
theorem d100_92 : decode prog_10_method_40_code 92 = .ok (.iconst 0, 1) := by decide +kernel
theorem d100_93 : decode prog_10_method_40_code 93 = .ok (.iload_n 2, 1) := by decide +kernel
theorem d100_94 : decode prog_10_method_40_code 94 = .ok (.i2l, 1) := by decide +kernel
theorem d100_95 : decode prog_10_method_40_code 95 = .ok (.lastore, 1) := by decide +kernel
theorem d100_96 : decode prog_10_method_40_code 96 = .ok (.aload_n 0, 1) := by decide +kernel
theorem d100_97 : decode prog_10_method_40_code 97 = .ok (.getfield 94, 3) := by decide +kernel
theorem d100_100 : decode prog_10_method_40_code 100 = .ok (.iconst 0, 1) := by decide +kernel
theorem d100_101 : decode prog_10_method_40_code 101 = .ok (.iload_n 3, 1) := by decide +kernel
theorem d100_102 : decode prog_10_method_40_code 102 = .ok (.i2l, 1) := by decide +kernel
theorem d100_103 : decode prog_10_method_40_code 103 = .ok (.lastore, 1) := by decide +kernel
theorem d100_104 : decode prog_10_method_40_code 104 = .ok (.aload_n 0, 1) := by decide +kernel
theorem d100_105 : decode prog_10_method_40_code 105 = .ok (.aload_n 0, 1) := by decide +kernel
theorem d100_106 : decode prog_10_method_40_code 106 = .ok (.getfield 54, 3) := by decide +kernel
theorem d100_109 : decode prog_10_method_40_code 109 = .ok (.aload_n 0, 1) := by decide +kernel
theorem d100_110 : decode prog_10_method_40_code 110 = .ok (.getfield 57, 3) := by decide +kernel
theorem d100_113 : decode prog_10_method_40_code 113 = .ok (.iload_n 1, 1) := by decide +kernel
theorem d100_114 : decode prog_10_method_40_code 114 = .ok (.iaload, 1) := by decide +kernel
theorem d100_115 : decode prog_10_method_40_code 115 = .ok (.iaload, 1) := by decide +kernel
theorem d100_116 : decode prog_10_method_40_code 116 = .ok (.invokevirtual 232, 3) := by decide +kernel
theorem d100_119 : decode prog_10_method_40_code 119 = .ok (.iconst 0, 1) := by decide +kernel
theorem d100_120 : decode prog_10_method_40_code 120 = .ok (.istore 4, 2) := by decide +kernel
theorem d100_122 : decode prog_10_method_40_code 122 = .ok (.iload 4, 2) := by decide +kernel
theorem d100_124 : decode prog_10_method_40_code 124 = .ok (.sipush 20000, 3) := by decide +kernel
theorem d100_127 : decode prog_10_method_40_code 127 = .ok (.if_icmp .ge 101, 3) := by decide +kernel
theorem d100_130 : decode prog_10_method_40_code 130 = .ok (.aload_n 0, 1) := by decide +kernel
theorem d100_131 : decode prog_10_method_40_code 131 = .ok (.getfield 103, 3) := by decide +kernel
theorem d100_134 : decode prog_10_method_40_code 134 = .ok (.ifCond .le 94, 3) := by decide +kernel
theorem d100_137 : decode prog_10_method_40_code 137 = .ok (.aload_n 0, 1) := by decide +kernel
theorem d100_138 : decode prog_10_method_40_code 138 = .ok (.getfield 116, 3) := by decide +kernel
theorem d100_141 : decode prog_10_method_40_code 141 = .ok (.lconst 0, 1) := by decide +kernel
theorem d100_142 : decode prog_10_method_40_code 142 = .ok (.lcmp, 1) := by decide +kernel
theorem d100_143 : decode prog_10_method_40_code 143 = .ok (.ifCond .ne 85, 3) := by decide +kernel
theorem d100_146 : decode prog_10_method_40_code 146 = .ok (.aload_n 0, 1) := by decide +kernel
theorem d100_147 : decode prog_10_method_40_code 147 = .ok (.getfield 85, 3) := by decide +kernel
theorem d100_150 : decode prog_10_method_40_code 150 = .ok (.aload_n 0, 1) := by decide +kernel
theorem d100_151 : decode prog_10_method_40_code 151 = .ok (.getfield 103, 3) := by decide +kernel
theorem d100_154 : decode prog_10_method_40_code 154 = .ok (.iconst 1, 1) := by decide +kernel
theorem d100_155 : decode prog_10_method_40_code 155 = .ok (.isub, 1) := by decide +kernel
theorem d100_156 : decode prog_10_method_40_code 156 = .ok (.iaload, 1) := by decide +kernel
theorem d100_157 : decode prog_10_method_40_code 157 = .ok (.istore 5, 2) := by decide +kernel
theorem d100_159 : decode prog_10_method_40_code 159 = .ok (.aload_n 0, 1) := by decide +kernel
theorem d100_160 : decode prog_10_method_40_code 160 = .ok (.getfield 25, 3) := by decide +kernel
theorem d100_163 : decode prog_10_method_40_code 163 = .ok (.iload 5, 2) := by decide +kernel
theorem d100_165 : decode prog_10_method_40_code 165 = .ok (.iaload, 1) := by decide +kernel
theorem d100_166 : decode prog_10_method_40_code 166 = .ok (.istore 6, 2) := by decide +kernel
theorem d100_168 : decode prog_10_method_40_code 168 = .ok (.iload 6, 2) := by decide +kernel
theorem d100_170 : decode prog_10_method_40_code 170 = .ok (.bipush 13, 2) := by decide +kernel
theorem d100_172 : decode prog_10_method_40_code 172 = .ok (.if_icmp .ge 12, 3) := by decide +kernel
theorem d100_175 : decode prog_10_method_40_code 175 = .ok (.aload_n 0, 1) := by decide +kernel
theorem d100_176 : decode prog_10_method_40_code 176 = .ok (.iload 5, 2) := by decide +kernel
theorem d100_178 : decode prog_10_method_40_code 178 = .ok (.invokevirtual 247, 3) := by decide +kernel
theorem d100_181 : decode prog_10_method_40_code 181 = .ok (.goto 41, 3) := by decide +kernel
theorem d100_184 : decode prog_10_method_40_code 184 = .ok (.iload 6, 2) := by decide +kernel
theorem d100_186 : decode prog_10_method_40_code 186 = .ok (.bipush 13, 2) := by decide +kernel
theorem d100_188 : decode prog_10_method_40_code 188 = .ok (.if_icmp .ne 12, 3) := by decide +kernel
theorem d100_191 : decode prog_10_method_40_code 191 = .ok (.aload_n 0, 1) := by decide +kernel
theorem d100_192 : decode prog_10_method_40_code 192 = .ok (.iload 5, 2) := by decide +kernel
theorem d100_194 : decode prog_10_method_40_code 194 = .ok (.invokevirtual 250, 3) := by decide +kernel
theorem d100_197 : decode prog_10_method_40_code 197 = .ok (.goto 25, 3) := by decide +kernel
theorem d100_200 : decode prog_10_method_40_code 200 = .ok (.iload 6, 2) := by decide +kernel
theorem d100_202 : decode prog_10_method_40_code 202 = .ok (.bipush 14, 2) := by decide +kernel
theorem d100_204 : decode prog_10_method_40_code 204 = .ok (.if_icmp .ne 12, 3) := by decide +kernel
theorem d100_207 : decode prog_10_method_40_code 207 = .ok (.aload_n 0, 1) := by decide +kernel
theorem d100_208 : decode prog_10_method_40_code 208 = .ok (.iload 5, 2) := by decide +kernel
theorem d100_210 : decode prog_10_method_40_code 210 = .ok (.invokevirtual 253, 3) := by decide +kernel
theorem d100_213 : decode prog_10_method_40_code 213 = .ok (.goto 9, 3) := by decide +kernel
theorem d100_216 : decode prog_10_method_40_code 216 = .ok (.aload_n 0, 1) := by decide +kernel
theorem d100_217 : decode prog_10_method_40_code 217 = .ok (.iload 5, 2) := by decide +kernel
theorem d100_219 : decode prog_10_method_40_code 219 = .ok (.invokevirtual 256, 3) := by decide +kernel
theorem d100_222 : decode prog_10_method_40_code 222 = .ok (.iinc 4 1, 3) := by decide +kernel
theorem d100_225 : decode prog_10_method_40_code 225 = .ok (.goto (-103), 3) := by decide +kernel
theorem d100_228 : decode prog_10_method_40_code 228 = .ok (.aload_n 0, 1) := by decide +kernel
theorem d100_229 : decode prog_10_method_40_code 229 = .ok (.getfield 116, 3) := by decide +kernel
theorem d100_232 : decode prog_10_method_40_code 232 = .ok (.lconst 0, 1) := by decide +kernel
theorem d100_233 : decode prog_10_method_40_code 233 = .ok (.lcmp, 1) := by decide +kernel
theorem d100_234 : decode prog_10_method_40_code 234 = .ok (.ifCond .eq 10, 3) := by decide +kernel
theorem d100_237 : decode prog_10_method_40_code 237 = .ok (.aload_n 0, 1) := by decide +kernel
theorem d100_238 : decode prog_10_method_40_code 238 = .ok (.getfield 116, 3) := by decide +kernel
theorem d100_241 : decode prog_10_method_40_code 241 = .ok (.goto 7, 3) := by decide +kernel
theorem d100_244 : decode prog_10_method_40_code 244 = .ok (.aload_n 0, 1) := by decide +kernel
theorem d100_245 : decode prog_10_method_40_code 245 = .ok (.getfield 112, 3) := by decide +kernel
theorem d100_248 : decode prog_10_method_40_code 248 = .ok (.lreturn, 1) := by decide +kernel
theorem d101_0 : decode prog_10_method_41_code 0 = .ok (.iload_n 1, 1) := by decide +kernel
theorem d101_1 : decode prog_10_method_41_code 1 = .ok (.ifCond .lt 11, 3) := by decide +kernel
theorem d101_4 : decode prog_10_method_41_code 4 = .ok (.iload_n 1, 1) := by decide +kernel
theorem d101_5 : decode prog_10_method_41_code 5 = .ok (.aload_n 0, 1) := by decide +kernel
theorem d101_6 : decode prog_10_method_41_code 6 = .ok (.getfield 19, 3) := by decide +kernel
theorem d101_9 : decode prog_10_method_41_code 9 = .ok (.if_icmp .lt 7, 3) := by decide +kernel
theorem d101_12 : decode prog_10_method_41_code 12 = .ok (.iconst 1, 1) := by decide +kernel
theorem d101_13 : decode prog_10_method_41_code 13 = .ok (.goto 4, 3) := by decide +kernel
theorem d101_16 : decode prog_10_method_41_code 16 = .ok (.iconst 0, 1) := by decide +kernel
theorem d101_17 : decode prog_10_method_41_code 17 = .ok (.ireturn, 1) := by decide +kernel
theorem d102_0 : decode prog_10_method_42_code 0 = .ok (.aload_n 0, 1) := by decide +kernel
theorem d102_1 : decode prog_10_method_42_code 1 = .ok (.iload_n 1, 1) := by decide +kernel
theorem d102_2 : decode prog_10_method_42_code 2 = .ok (.invokevirtual 259, 3) := by decide +kernel
theorem d102_5 : decode prog_10_method_42_code 5 = .ok (.ifCond .eq 7, 3) := by decide +kernel
theorem d102_8 : decode prog_10_method_42_code 8 = .ok (.iconst (-1), 1) := by decide +kernel
theorem d102_9 : decode prog_10_method_42_code 9 = .ok (.goto 9, 3) := by decide +kernel
theorem d102_12 : decode prog_10_method_42_code 12 = .ok (.aload_n 0, 1) := by decide +kernel
theorem d102_13 : decode prog_10_method_42_code 13 = .ok (.getfield 57, 3) := by decide +kernel
theorem d102_16 : decode prog_10_method_42_code 16 = .ok (.iload_n 1, 1) := by decide +kernel
theorem d102_17 : decode prog_10_method_42_code 17 = .ok (.iaload, 1) := by decide +kernel
theorem d102_18 : decode prog_10_method_42_code 18 = .ok (.ireturn, 1) := by decide +kernel
theorem d103_0 : decode prog_10_method_43_code 0 = .ok (.aload_n 0, 1) := by decide +kernel
theorem d103_1 : decode prog_10_method_43_code 1 = .ok (.iload_n 1, 1) := by decide +kernel
theorem d103_2 : decode prog_10_method_43_code 2 = .ok (.invokevirtual 259, 3) := by decide +kernel
theorem d103_5 : decode prog_10_method_43_code 5 = .ok (.ifCond .ne 29, 3) := by decide +kernel
theorem d103_8 : decode prog_10_method_43_code 8 = .ok (.iload_n 2, 1) := by decide +kernel
theorem d103_9 : decode prog_10_method_43_code 9 = .ok (.ifCond .lt 25, 3) := by decide +kernel
theorem d103_12 : decode prog_10_method_43_code 12 = .ok (.iload_n 2, 1) := by decide +kernel
theorem d103_13 : decode prog_10_method_43_code 13 = .ok (.iconst 1, 1) := by decide +kernel
theorem d103_14 : decode prog_10_method_43_code 14 = .ok (.if_icmp .gt 20, 3) := by decide +kernel
theorem d103_17 : decode prog_10_method_43_code 17 = .ok (.aload_n 0, 1) := by decide +kernel
theorem d103_18 : decode prog_10_method_43_code 18 = .ok (.aload_n 0, 1) := by decide +kernel
theorem d103_19 : decode prog_10_method_43_code 19 = .ok (.getfield 57, 3) := by decide +kernel
theorem d103_22 : decode prog_10_method_43_code 22 = .ok (.iload_n 1, 1) := by decide +kernel
theorem d103_23 : decode prog_10_method_43_code 23 = .ok (.iaload, 1) := by decide +kernel
theorem d103_24 : decode prog_10_method_43_code 24 = .ok (.iload_n 2, 1) := by decide +kernel
theorem d103_25 : decode prog_10_method_43_code 25 = .ok (.invokevirtual 204, 3) := by decide +kernel
theorem d103_28 : decode prog_10_method_43_code 28 = .ok (.sipush 300, 3) := by decide +kernel
theorem d103_31 : decode prog_10_method_43_code 31 = .ok (.if_icmp .eq 7, 3) := by decide +kernel
theorem d103_34 : decode prog_10_method_43_code 34 = .ok (.ldc2_w 245, 3) := by decide +kernel
theorem d103_37 : decode prog_10_method_43_code 37 = .ok (.lreturn, 1) := by decide +kernel
theorem d103_38 : decode prog_10_method_43_code 38 = .ok (.iload_n 2, 1) := by decide +kernel
theorem d103_39 : decode prog_10_method_43_code 39 = .ok (.ifCond .ne 12, 3) := by decide +kernel
theorem d103_42 : decode prog_10_method_43_code 42 = .ok (.aload_n 0, 1) := by decide +kernel
theorem d103_43 : decode prog_10_method_43_code 43 = .ok (.getfield 119, 3) := by decide +kernel
theorem d103_46 : decode prog_10_method_43_code 46 = .ok (.iload_n 1, 1) := by decide +kernel
theorem d103_47 : decode prog_10_method_43_code 47 = .ok (.laload, 1) := by decide +kernel
theorem d103_48 : decode prog_10_method_43_code 48 = .ok (.goto 9, 3) := by decide +kernel
theorem d103_51 : decode prog_10_method_43_code 51 = .ok (.aload_n 0, 1) := by decide +kernel
theorem d103_52 : decode prog_10_method_43_code 52 = .ok (.getfield 122, 3) := by decide +kernel
theorem d103_55 : decode prog_10_method_43_code 55 = .ok (.iload_n 1, 1) := by decide +kernel
theorem d103_56 : decode prog_10_method_43_code 56 = .ok (.laload, 1) := by decide +kernel
theorem d103_57 : decode prog_10_method_43_code 57 = .ok (.lreturn, 1) := by decide +kernel
theorem d104_0 : decode prog_10_method_44_code 0 = .ok (.aload_n 0, 1) := by decide +kernel
theorem d104_1 : decode prog_10_method_44_code 1 = .ok (.iload_n 1, 1) := by decide +kernel
theorem d104_2 : decode prog_10_method_44_code 2 = .ok (.invokevirtual 259, 3) := by decide +kernel
theorem d104_5 : decode prog_10_method_44_code 5 = .ok (.ifCond .ne 11, 3) := by decide +kernel
theorem d104_8 : decode prog_10_method_44_code 8 = .ok (.aload_n 0, 1) := by decide +kernel
theorem d104_9 : decode prog_10_method_44_code 9 = .ok (.iload_n 2, 1) := by decide +kernel
theorem d104_10 : decode prog_10_method_44_code 10 = .ok (.invokevirtual 136, 3) := by decide +kernel
theorem d104_13 : decode prog_10_method_44_code 13 = .ok (.ifCond .ne 7, 3) := by decide +kernel
theorem d104_16 : decode prog_10_method_44_code 16 = .ok (.iconst (-1), 1) := by decide +kernel
theorem d104_17 : decode prog_10_method_44_code 17 = .ok (.goto 34, 3) := by decide +kernel
theorem d104_20 : decode prog_10_method_44_code 20 = .ok (.aload_n 0, 1) := by decide +kernel
theorem d104_21 : decode prog_10_method_44_code 21 = .ok (.getfield 66, 3) := by decide +kernel
theorem d104_24 : decode prog_10_method_44_code 24 = .ok (.iload_n 1, 1) := by decide +kernel
theorem d104_25 : decode prog_10_method_44_code 25 = .ok (.bipush 60, 2) := by decide +kernel
theorem d104_27 : decode prog_10_method_44_code 27 = .ok (.imul, 1) := by decide +kernel
theorem d104_28 : decode prog_10_method_44_code 28 = .ok (.iload_n 2, 1) := by decide +kernel
theorem d104_29 : decode prog_10_method_44_code 29 = .ok (.iadd, 1) := by decide +kernel
theorem d104_30 : decode prog_10_method_44_code 30 = .ok (.baload, 1) := by decide +kernel
theorem d104_31 : decode prog_10_method_44_code 31 = .ok (.ifCond .eq 17, 3) := by decide +kernel
theorem d104_34 : decode prog_10_method_44_code 34 = .ok (.aload_n 0, 1) := by decide +kernel
theorem d104_35 : decode prog_10_method_44_code 35 = .ok (.getfield 72, 3) := by decide +kernel
theorem d104_38 : decode prog_10_method_44_code 38 = .ok (.iload_n 1, 1) := by decide +kernel
theorem d104_39 : decode prog_10_method_44_code 39 = .ok (.bipush 60, 2) := by decide +kernel
theorem d104_41 : decode prog_10_method_44_code 41 = .ok (.imul, 1) := by decide +kernel
theorem d104_42 : decode prog_10_method_44_code 42 = .ok (.iload_n 2, 1) := by decide +kernel
theorem d104_43 : decode prog_10_method_44_code 43 = .ok (.iadd, 1) := by decide +kernel
theorem d104_44 : decode prog_10_method_44_code 44 = .ok (.iaload, 1) := by decide +kernel
theorem d104_45 : decode prog_10_method_44_code 45 = .ok (.goto 6, 3) := by decide +kernel
theorem d104_48 : decode prog_10_method_44_code 48 = .ok (.sipush 400, 3) := by decide +kernel
theorem d104_51 : decode prog_10_method_44_code 51 = .ok (.ireturn, 1) := by decide +kernel
theorem d105_0 : decode prog_10_method_45_code 0 = .ok (.aload_n 0, 1) := by decide +kernel
theorem d105_1 : decode prog_10_method_45_code 1 = .ok (.iload_n 1, 1) := by decide +kernel
theorem d105_2 : decode prog_10_method_45_code 2 = .ok (.invokevirtual 259, 3) := by decide +kernel
theorem d105_5 : decode prog_10_method_45_code 5 = .ok (.ifCond .ne 39, 3) := by decide +kernel
theorem d105_8 : decode prog_10_method_45_code 8 = .ok (.aload_n 0, 1) := by decide +kernel
theorem d105_9 : decode prog_10_method_45_code 9 = .ok (.iload_n 2, 1) := by decide +kernel
theorem d105_10 : decode prog_10_method_45_code 10 = .ok (.invokevirtual 136, 3) := by decide +kernel
theorem d105_13 : decode prog_10_method_45_code 13 = .ok (.ifCond .eq 31, 3) := by decide +kernel
theorem d105_16 : decode prog_10_method_45_code 16 = .ok (.aload_n 0, 1) := by decide +kernel
theorem d105_17 : decode prog_10_method_45_code 17 = .ok (.getfield 66, 3) := by decide +kernel
theorem d105_20 : decode prog_10_method_45_code 20 = .ok (.iload_n 1, 1) := by decide +kernel
theorem d105_21 : decode prog_10_method_45_code 21 = .ok (.bipush 60, 2) := by decide +kernel
theorem d105_23 : decode prog_10_method_45_code 23 = .ok (.imul, 1) := by decide +kernel
theorem d105_24 : decode prog_10_method_45_code 24 = .ok (.iload_n 2, 1) := by decide +kernel
theorem d105_25 : decode prog_10_method_45_code 25 = .ok (.iadd, 1) := by decide +kernel
theorem d105_26 : decode prog_10_method_45_code 26 = .ok (.baload, 1) := by decide +kernel
theorem d105_27 : decode prog_10_method_45_code 27 = .ok (.ifCond .eq 17, 3) := by decide +kernel
theorem d105_30 : decode prog_10_method_45_code 30 = .ok (.aload_n 0, 1) := by decide +kernel
theorem d105_31 : decode prog_10_method_45_code 31 = .ok (.getfield 69, 3) := by decide +kernel
theorem d105_34 : decode prog_10_method_45_code 34 = .ok (.iload_n 1, 1) := by decide +kernel
theorem d105_35 : decode prog_10_method_45_code 35 = .ok (.bipush 60, 2) := by decide +kernel
theorem d105_37 : decode prog_10_method_45_code 37 = .ok (.imul, 1) := by decide +kernel
theorem d105_38 : decode prog_10_method_45_code 38 = .ok (.iload_n 2, 1) := by decide +kernel
theorem d105_39 : decode prog_10_method_45_code 39 = .ok (.iadd, 1) := by decide +kernel
theorem d105_40 : decode prog_10_method_45_code 40 = .ok (.baload, 1) := by decide +kernel
theorem d105_41 : decode prog_10_method_45_code 41 = .ok (.ifCond .ne 9, 3) := by decide +kernel
theorem d105_44 : decode prog_10_method_45_code 44 = .ok (.ldc2_w 245, 3) := by decide +kernel
theorem d105_47 : decode prog_10_method_45_code 47 = .ok (.goto 14, 3) := by decide +kernel
theorem d105_50 : decode prog_10_method_45_code 50 = .ok (.aload_n 0, 1) := by decide +kernel
theorem d105_51 : decode prog_10_method_45_code 51 = .ok (.getfield 78, 3) := by decide +kernel
theorem d105_54 : decode prog_10_method_45_code 54 = .ok (.iload_n 1, 1) := by decide +kernel
theorem d105_55 : decode prog_10_method_45_code 55 = .ok (.bipush 60, 2) := by decide +kernel
theorem d105_57 : decode prog_10_method_45_code 57 = .ok (.imul, 1) := by decide +kernel
theorem d105_58 : decode prog_10_method_45_code 58 = .ok (.iload_n 2, 1) := by decide +kernel
theorem d105_59 : decode prog_10_method_45_code 59 = .ok (.iadd, 1) := by decide +kernel
theorem d105_60 : decode prog_10_method_45_code 60 = .ok (.laload, 1) := by decide +kernel
theorem d105_61 : decode prog_10_method_45_code 61 = .ok (.lreturn, 1) := by decide +kernel
theorem d106_0 : decode prog_10_method_46_code 0 = .ok (.aload_n 0, 1) := by decide +kernel
theorem d106_1 : decode prog_10_method_46_code 1 = .ok (.iload_n 1, 1) := by decide +kernel
theorem d106_2 : decode prog_10_method_46_code 2 = .ok (.invokevirtual 259, 3) := by decide +kernel
theorem d106_5 : decode prog_10_method_46_code 5 = .ok (.ifCond .eq 5, 3) := by decide +kernel
theorem d106_8 : decode prog_10_method_46_code 8 = .ok (.iconst (-1), 1) := by decide +kernel
theorem d106_9 : decode prog_10_method_46_code 9 = .ok (.ireturn, 1) := by decide +kernel
theorem d106_10 : decode prog_10_method_46_code 10 = .ok (.iconst 0, 1) := by decide +kernel
theorem d106_11 : decode prog_10_method_46_code 11 = .ok (.istore_n 2, 1) := by decide +kernel
theorem d106_12 : decode prog_10_method_46_code 12 = .ok (.iconst 0, 1) := by decide +kernel
theorem d106_13 : decode prog_10_method_46_code 13 = .ok (.istore_n 3, 1) := by decide +kernel
theorem d106_14 : decode prog_10_method_46_code 14 = .ok (.iload_n 3, 1) := by decide +kernel
theorem d106_15 : decode prog_10_method_46_code 15 = .ok (.aload_n 0, 1) := by decide +kernel
theorem d106_16 : decode prog_10_method_46_code 16 = .ok (.getfield 7, 3) := by decide +kernel
theorem d106_19 : decode prog_10_method_46_code 19 = .ok (.if_icmp .ge 61, 3) := by decide +kernel
theorem d106_22 : decode prog_10_method_46_code 22 = .ok (.aload_n 0, 1) := by decide +kernel
theorem d106_23 : decode prog_10_method_46_code 23 = .ok (.getfield 66, 3) := by decide +kernel
theorem d106_26 : decode prog_10_method_46_code 26 = .ok (.iload_n 1, 1) := by decide +kernel
theorem d106_27 : decode prog_10_method_46_code 27 = .ok (.bipush 60, 2) := by decide +kernel
theorem d106_29 : decode prog_10_method_46_code 29 = .ok (.imul, 1) := by decide +kernel
theorem d106_30 : decode prog_10_method_46_code 30 = .ok (.iload_n 3, 1) := by decide +kernel
theorem d106_31 : decode prog_10_method_46_code 31 = .ok (.iadd, 1) := by decide +kernel
theorem d106_32 : decode prog_10_method_46_code 32 = .ok (.baload, 1) := by decide +kernel
theorem d106_33 : decode prog_10_method_46_code 33 = .ok (.ifCond .eq 41, 3) := by decide +kernel
theorem d106_36 : decode prog_10_method_46_code 36 = .ok (.aload_n 0, 1) := by decide +kernel
theorem d106_37 : decode prog_10_method_46_code 37 = .ok (.getfield 69, 3) := by decide +kernel
theorem d106_40 : decode prog_10_method_46_code 40 = .ok (.iload_n 1, 1) := by decide +kernel
theorem d106_41 : decode prog_10_method_46_code 41 = .ok (.bipush 60, 2) := by decide +kernel
theorem d106_43 : decode prog_10_method_46_code 43 = .ok (.imul, 1) := by decide +kernel
theorem d106_44 : decode prog_10_method_46_code 44 = .ok (.iload_n 3, 1) := by decide +kernel
theorem d106_45 : decode prog_10_method_46_code 45 = .ok (.iadd, 1) := by decide +kernel
theorem d106_46 : decode prog_10_method_46_code 46 = .ok (.baload, 1) := by decide +kernel
theorem d106_47 : decode prog_10_method_46_code 47 = .ok (.ifCond .ne 27, 3) := by decide +kernel
theorem d106_50 : decode prog_10_method_46_code 50 = .ok (.aload_n 0, 1) := by decide +kernel
theorem d106_51 : decode prog_10_method_46_code 51 = .ok (.getfield 25, 3) := by decide +kernel
theorem d106_54 : decode prog_10_method_46_code 54 = .ok (.iload_n 3, 1) := by decide +kernel
theorem d106_55 : decode prog_10_method_46_code 55 = .ok (.iaload, 1) := by decide +kernel
theorem d106_56 : decode prog_10_method_46_code 56 = .ok (.iconst 1, 1) := by decide +kernel
theorem d106_57 : decode prog_10_method_46_code 57 = .ok (.if_icmp .le 17, 3) := by decide +kernel
theorem d106_60 : decode prog_10_method_46_code 60 = .ok (.aload_n 0, 1) := by decide +kernel
theorem d106_61 : decode prog_10_method_46_code 61 = .ok (.getfield 25, 3) := by decide +kernel
theorem d106_64 : decode prog_10_method_46_code 64 = .ok (.iload_n 3, 1) := by decide +kernel
theorem d106_65 : decode prog_10_method_46_code 65 = .ok (.iaload, 1) := by decide +kernel
theorem d106_66 : decode prog_10_method_46_code 66 = .ok (.bipush 16, 2) := by decide +kernel
theorem d106_68 : decode prog_10_method_46_code 68 = .ok (.if_icmp .ge 6, 3) := by decide +kernel
theorem d106_71 : decode prog_10_method_46_code 71 = .ok (.iinc 2 1, 3) := by decide +kernel
theorem d106_74 : decode prog_10_method_46_code 74 = .ok (.iinc 3 1, 3) := by decide +kernel
theorem d106_77 : decode prog_10_method_46_code 77 = .ok (.goto (-63), 3) := by decide +kernel
theorem d106_80 : decode prog_10_method_46_code 80 = .ok (.iload_n 2, 1) := by decide +kernel
theorem d106_81 : decode prog_10_method_46_code 81 = .ok (.ireturn, 1) := by decide +kernel
theorem d107_0 : decode prog_10_method_47_code 0 = .ok (.iconst 0, 1) := by decide +kernel
theorem d107_1 : decode prog_10_method_47_code 1 = .ok (.istore_n 2, 1) := by decide +kernel
theorem d107_2 : decode prog_10_method_47_code 2 = .ok (.iconst 0, 1) := by decide +kernel
theorem d107_3 : decode prog_10_method_47_code 3 = .ok (.istore_n 3, 1) := by decide +kernel
theorem d107_4 : decode prog_10_method_47_code 4 = .ok (.iload_n 3, 1) := by decide +kernel
theorem d107_5 : decode prog_10_method_47_code 5 = .ok (.bipush 8, 2) := by decide +kernel
theorem d107_7 : decode prog_10_method_47_code 7 = .ok (.if_icmp .ge 21, 3) := by decide +kernel
theorem d107_10 : decode prog_10_method_47_code 10 = .ok (.aload_n 0, 1) := by decide +kernel
theorem d107_11 : decode prog_10_method_47_code 11 = .ok (.getfield 41, 3) := by decide +kernel
theorem d107_14 : decode prog_10_method_47_code 14 = .ok (.iload_n 3, 1) := by decide +kernel
theorem d107_15 : decode prog_10_method_47_code 15 = .ok (.baload, 1) := by decide +kernel
theorem d107_16 : decode prog_10_method_47_code 16 = .ok (.ifCond .eq 6, 3) := by decide +kernel
theorem d107_19 : decode prog_10_method_47_code 19 = .ok (.iinc 2 1, 3) := by decide +kernel
theorem d107_22 : decode prog_10_method_47_code 22 = .ok (.iinc 3 1, 3) := by decide +kernel
theorem d107_25 : decode prog_10_method_47_code 25 = .ok (.goto (-21), 3) := by decide +kernel
theorem d107_28 : decode prog_10_method_47_code 28 = .ok (.iload_n 1, 1) := by decide +kernel
theorem d107_29 : decode prog_10_method_47_code 29 = .ok (.ifCond .ne 10, 3) := by decide +kernel
theorem d107_32 : decode prog_10_method_47_code 32 = .ok (.aload_n 0, 1) := by decide +kernel
theorem d107_33 : decode prog_10_method_47_code 33 = .ok (.getfield 7, 3) := by decide +kernel
theorem d107_36 : decode prog_10_method_47_code 36 = .ok (.goto 37, 3) := by decide +kernel
theorem d107_39 : decode prog_10_method_47_code 39 = .ok (.iload_n 1, 1) := by decide +kernel
theorem d107_40 : decode prog_10_method_47_code 40 = .ok (.iconst 1, 1) := by decide +kernel
theorem d107_41 : decode prog_10_method_47_code 41 = .ok (.if_icmp .ne 7, 3) := by decide +kernel
theorem d107_44 : decode prog_10_method_47_code 44 = .ok (.iload_n 2, 1) := by decide +kernel
theorem d107_45 : decode prog_10_method_47_code 45 = .ok (.goto 28, 3) := by decide +kernel
theorem d107_48 : decode prog_10_method_47_code 48 = .ok (.iload_n 1, 1) := by decide +kernel
theorem d107_49 : decode prog_10_method_47_code 49 = .ok (.iconst 2, 1) := by decide +kernel
theorem d107_50 : decode prog_10_method_47_code 50 = .ok (.if_icmp .ne 10, 3) := by decide +kernel
theorem d107_53 : decode prog_10_method_47_code 53 = .ok (.aload_n 0, 1) := by decide +kernel
theorem d107_54 : decode prog_10_method_47_code 54 = .ok (.getfield 19, 3) := by decide +kernel
theorem d107_57 : decode prog_10_method_47_code 57 = .ok (.goto 16, 3) := by decide +kernel
theorem d107_60 : decode prog_10_method_47_code 60 = .ok (.iload_n 1, 1) := by decide +kernel
theorem d107_61 : decode prog_10_method_47_code 61 = .ok (.iconst 3, 1) := by decide +kernel
theorem d107_62 : decode prog_10_method_47_code 62 = .ok (.if_icmp .ne 10, 3) := by decide +kernel
theorem d107_65 : decode prog_10_method_47_code 65 = .ok (.aload_n 0, 1) := by decide +kernel
theorem d107_66 : decode prog_10_method_47_code 66 = .ok (.getfield 22, 3) := by decide +kernel
theorem d107_69 : decode prog_10_method_47_code 69 = .ok (.goto 4, 3) := by decide +kernel
theorem d107_72 : decode prog_10_method_47_code 72 = .ok (.iconst (-1), 1) := by decide +kernel
theorem d107_73 : decode prog_10_method_47_code 73 = .ok (.ireturn, 1) := by decide +kernel

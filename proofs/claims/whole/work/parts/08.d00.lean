/-! decode rows, printed by a program of mine out of the listing -/
theorem d0_0 : decode prog_1_method_1_code 0 = .ok (.aload_n 0, 1) := by decide +kernel
theorem d0_1 : decode prog_1_method_1_code 1 = .ok (.invokespecial 1, 3) := by decide +kernel
theorem d0_4 : decode prog_1_method_1_code 4 = .ok (.new 7, 3) := by decide +kernel
theorem d0_7 : decode prog_1_method_1_code 7 = .ok (.dup, 1) := by decide +kernel
theorem d0_8 : decode prog_1_method_1_code 8 = .ok (.invokespecial 9, 3) := by decide +kernel
theorem d0_11 : decode prog_1_method_1_code 11 = .ok (.astore_n 1, 1) := by decide +kernel
theorem d0_12 : decode prog_1_method_1_code 12 = .ok (.new 10, 3) := by decide +kernel
theorem d0_15 : decode prog_1_method_1_code 15 = .ok (.dup, 1) := by decide +kernel
theorem d0_16 : decode prog_1_method_1_code 16 = .ok (.aload_n 1, 1) := by decide +kernel
theorem d0_17 : decode prog_1_method_1_code 17 = .ok (.invokespecial 12, 3) := by decide +kernel
theorem d0_20 : decode prog_1_method_1_code 20 = .ok (.astore_n 2, 1) := by decide +kernel
theorem d0_21 : decode prog_1_method_1_code 21 = .ok (.aload_n 0, 1) := by decide +kernel
theorem d0_22 : decode prog_1_method_1_code 22 = .ok (.aload_n 1, 1) := by decide +kernel
theorem d0_23 : decode prog_1_method_1_code 23 = .ok (.putfield 15, 3) := by decide +kernel
theorem d0_26 : decode prog_1_method_1_code 26 = .ok (.aload_n 0, 1) := by decide +kernel
theorem d0_27 : decode prog_1_method_1_code 27 = .ok (.aload_n 2, 1) := by decide +kernel
theorem d0_28 : decode prog_1_method_1_code 28 = .ok (.putfield 21, 3) := by decide +kernel
theorem d0_31 : decode prog_1_method_1_code 31 = .ok (.aload_n 0, 1) := by decide +kernel
theorem d0_32 : decode prog_1_method_1_code 32 = .ok (.new 25, 3) := by decide +kernel
theorem d0_35 : decode prog_1_method_1_code 35 = .ok (.dup, 1) := by decide +kernel
theorem d0_36 : decode prog_1_method_1_code 36 = .ok (.aload_n 1, 1) := by decide +kernel
theorem d0_37 : decode prog_1_method_1_code 37 = .ok (.aload_n 2, 1) := by decide +kernel
theorem d0_38 : decode prog_1_method_1_code 38 = .ok (.getfield 27, 3) := by decide +kernel
theorem d0_41 : decode prog_1_method_1_code 41 = .ok (.invokespecial 31, 3) := by decide +kernel
theorem d0_44 : decode prog_1_method_1_code 44 = .ok (.putfield 34, 3) := by decide +kernel
theorem d0_47 : decode prog_1_method_1_code 47 = .ok (.return_, 1) := by decide +kernel
theorem d1_0 : decode prog_7_method_1_code 0 = .ok (.aload_n 0, 1) := by decide +kernel
theorem d1_1 : decode prog_7_method_1_code 1 = .ok (.invokespecial 3, 3) := by decide +kernel
theorem d1_4 : decode prog_7_method_1_code 4 = .ok (.aload_n 0, 1) := by decide +kernel
theorem d1_5 : decode prog_7_method_1_code 5 = .ok (.bipush 60, 2) := by decide +kernel
theorem d1_7 : decode prog_7_method_1_code 7 = .ok (.newarray .int, 2) := by decide +kernel
theorem d1_9 : decode prog_7_method_1_code 9 = .ok (.putfield 9, 3) := by decide +kernel
theorem d1_12 : decode prog_7_method_1_code 12 = .ok (.aload_n 0, 1) := by decide +kernel
theorem d1_13 : decode prog_7_method_1_code 13 = .ok (.bipush 60, 2) := by decide +kernel
theorem d1_15 : decode prog_7_method_1_code 15 = .ok (.newarray .int, 2) := by decide +kernel
theorem d1_17 : decode prog_7_method_1_code 17 = .ok (.putfield 15, 3) := by decide +kernel
theorem d1_20 : decode prog_7_method_1_code 20 = .ok (.aload_n 0, 1) := by decide +kernel
theorem d1_21 : decode prog_7_method_1_code 21 = .ok (.bipush 60, 2) := by decide +kernel
theorem d1_23 : decode prog_7_method_1_code 23 = .ok (.newarray .int, 2) := by decide +kernel
theorem d1_25 : decode prog_7_method_1_code 25 = .ok (.putfield 18, 3) := by decide +kernel
theorem d1_28 : decode prog_7_method_1_code 28 = .ok (.aload_n 0, 1) := by decide +kernel
theorem d1_29 : decode prog_7_method_1_code 29 = .ok (.bipush 60, 2) := by decide +kernel
theorem d1_31 : decode prog_7_method_1_code 31 = .ok (.newarray .int, 2) := by decide +kernel
theorem d1_33 : decode prog_7_method_1_code 33 = .ok (.putfield 21, 3) := by decide +kernel
theorem d1_36 : decode prog_7_method_1_code 36 = .ok (.aload_n 0, 1) := by decide +kernel
theorem d1_37 : decode prog_7_method_1_code 37 = .ok (.bipush 60, 2) := by decide +kernel
theorem d1_39 : decode prog_7_method_1_code 39 = .ok (.newarray .int, 2) := by decide +kernel
theorem d1_41 : decode prog_7_method_1_code 41 = .ok (.putfield 24, 3) := by decide +kernel
theorem d1_44 : decode prog_7_method_1_code 44 = .ok (.aload_n 0, 1) := by decide +kernel
theorem d1_45 : decode prog_7_method_1_code 45 = .ok (.bipush 8, 2) := by decide +kernel
theorem d1_47 : decode prog_7_method_1_code 47 = .ok (.newarray .boolean, 2) := by decide +kernel
theorem d1_49 : decode prog_7_method_1_code 49 = .ok (.putfield 27, 3) := by decide +kernel
theorem d1_52 : decode prog_7_method_1_code 52 = .ok (.aload_n 0, 1) := by decide +kernel
theorem d1_53 : decode prog_7_method_1_code 53 = .ok (.bipush 8, 2) := by decide +kernel
theorem d1_55 : decode prog_7_method_1_code 55 = .ok (.newarray .int, 2) := by decide +kernel
theorem d1_57 : decode prog_7_method_1_code 57 = .ok (.putfield 31, 3) := by decide +kernel
theorem d1_60 : decode prog_7_method_1_code 60 = .ok (.aload_n 0, 1) := by decide +kernel
theorem d1_61 : decode prog_7_method_1_code 61 = .ok (.bipush 8, 2) := by decide +kernel
theorem d1_63 : decode prog_7_method_1_code 63 = .ok (.newarray .int, 2) := by decide +kernel
theorem d1_65 : decode prog_7_method_1_code 65 = .ok (.putfield 34, 3) := by decide +kernel
theorem d1_68 : decode prog_7_method_1_code 68 = .ok (.aload_n 0, 1) := by decide +kernel
theorem d1_69 : decode prog_7_method_1_code 69 = .ok (.bipush 8, 2) := by decide +kernel
theorem d1_71 : decode prog_7_method_1_code 71 = .ok (.newarray .int, 2) := by decide +kernel
theorem d1_73 : decode prog_7_method_1_code 73 = .ok (.putfield 37, 3) := by decide +kernel
theorem d1_76 : decode prog_7_method_1_code 76 = .ok (.aload_n 0, 1) := by decide +kernel
theorem d1_77 : decode prog_7_method_1_code 77 = .ok (.bipush 8, 2) := by decide +kernel
theorem d1_79 : decode prog_7_method_1_code 79 = .ok (.newarray .int, 2) := by decide +kernel
theorem d1_81 : decode prog_7_method_1_code 81 = .ok (.putfield 40, 3) := by decide +kernel
theorem d1_84 : decode prog_7_method_1_code 84 = .ok (.aload_n 0, 1) := by decide +kernel
theorem d1_85 : decode prog_7_method_1_code 85 = .ok (.iconst 0, 1) := by decide +kernel
theorem d1_86 : decode prog_7_method_1_code 86 = .ok (.putfield 43, 3) := by decide +kernel
theorem d1_89 : decode prog_7_method_1_code 89 = .ok (.aload_n 0, 1) := by decide +kernel
theorem d1_90 : decode prog_7_method_1_code 90 = .ok (.iconst 0, 1) := by decide +kernel
theorem d1_91 : decode prog_7_method_1_code 91 = .ok (.putfield 47, 3) := by decide +kernel
theorem d1_94 : decode prog_7_method_1_code 94 = .ok (.return_, 1) := by decide +kernel
theorem d2_0 : decode prog_3_method_1_code 0 = .ok (.aload_n 0, 1) := by decide +kernel
theorem d2_1 : decode prog_3_method_1_code 1 = .ok (.invokespecial 3, 3) := by decide +kernel
theorem d2_4 : decode prog_3_method_1_code 4 = .ok (.aload_n 0, 1) := by decide +kernel
theorem d2_5 : decode prog_3_method_1_code 5 = .ok (.aload_n 1, 1) := by decide +kernel
theorem d2_6 : decode prog_3_method_1_code 6 = .ok (.putfield 9, 3) := by decide +kernel
theorem d2_9 : decode prog_3_method_1_code 9 = .ok (.aload_n 0, 1) := by decide +kernel
theorem d2_10 : decode prog_3_method_1_code 10 = .ok (.bipush 20, 2) := by decide +kernel
theorem d2_12 : decode prog_3_method_1_code 12 = .ok (.anewarray 15, 3) := by decide +kernel
theorem d2_15 : decode prog_3_method_1_code 15 = .ok (.putfield 17, 3) := by decide +kernel
theorem d2_18 : decode prog_3_method_1_code 18 = .ok (.iconst 0, 1) := by decide +kernel
theorem d2_19 : decode prog_3_method_1_code 19 = .ok (.istore_n 2, 1) := by decide +kernel
theorem d2_20 : decode prog_3_method_1_code 20 = .ok (.iload_n 2, 1) := by decide +kernel
theorem d2_21 : decode prog_3_method_1_code 21 = .ok (.bipush 20, 2) := by decide +kernel
theorem d2_23 : decode prog_3_method_1_code 23 = .ok (.if_icmp .ge 22, 3) := by decide +kernel
theorem d2_26 : decode prog_3_method_1_code 26 = .ok (.aload_n 0, 1) := by decide +kernel
theorem d2_27 : decode prog_3_method_1_code 27 = .ok (.getfield 17, 3) := by decide +kernel
theorem d2_30 : decode prog_3_method_1_code 30 = .ok (.iload_n 2, 1) := by decide +kernel
theorem d2_31 : decode prog_3_method_1_code 31 = .ok (.new 15, 3) := by decide +kernel
theorem d2_34 : decode prog_3_method_1_code 34 = .ok (.dup, 1) := by decide +kernel
theorem d2_35 : decode prog_3_method_1_code 35 = .ok (.invokespecial 21, 3) := by decide +kernel
theorem d2_38 : decode prog_3_method_1_code 38 = .ok (.aastore, 1) := by decide +kernel
theorem d2_39 : decode prog_3_method_1_code 39 = .ok (.iinc 2 1, 3) := by decide +kernel
theorem d2_42 : decode prog_3_method_1_code 42 = .ok (.goto (-22), 3) := by decide +kernel
theorem d2_45 : decode prog_3_method_1_code 45 = .ok (.aload_n 0, 1) := by decide +kernel
theorem d2_46 : decode prog_3_method_1_code 46 = .ok (.iconst 0, 1) := by decide +kernel
theorem d2_47 : decode prog_3_method_1_code 47 = .ok (.putfield 22, 3) := by decide +kernel
theorem d2_50 : decode prog_3_method_1_code 50 = .ok (.aload_n 0, 1) := by decide +kernel
theorem d2_51 : decode prog_3_method_1_code 51 = .ok (.iconst 0, 1) := by decide +kernel
theorem d2_52 : decode prog_3_method_1_code 52 = .ok (.putfield 26, 3) := by decide +kernel
theorem d2_55 : decode prog_3_method_1_code 55 = .ok (.aload_n 0, 1) := by decide +kernel
theorem d2_56 : decode prog_3_method_1_code 56 = .ok (.iconst (-1), 1) := by decide +kernel
theorem d2_57 : decode prog_3_method_1_code 57 = .ok (.putfield 29, 3) := by decide +kernel
theorem d2_60 : decode prog_3_method_1_code 60 = .ok (.return_, 1) := by decide +kernel
theorem d3_0 : decode prog_4_method_1_code 0 = .ok (.aload_n 0, 1) := by decide +kernel
theorem d3_1 : decode prog_4_method_1_code 1 = .ok (.invokespecial 3, 3) := by decide +kernel
theorem d3_4 : decode prog_4_method_1_code 4 = .ok (.aload_n 0, 1) := by decide +kernel
theorem d3_5 : decode prog_4_method_1_code 5 = .ok (.iconst 2, 1) := by decide +kernel
theorem d3_6 : decode prog_4_method_1_code 6 = .ok (.newarray .int, 2) := by decide +kernel
theorem d3_8 : decode prog_4_method_1_code 8 = .ok (.putfield 9, 3) := by decide +kernel
theorem d3_11 : decode prog_4_method_1_code 11 = .ok (.aload_n 0, 1) := by decide +kernel
theorem d3_12 : decode prog_4_method_1_code 12 = .ok (.iconst 2, 1) := by decide +kernel
theorem d3_13 : decode prog_4_method_1_code 13 = .ok (.newarray .long, 2) := by decide +kernel
theorem d3_15 : decode prog_4_method_1_code 15 = .ok (.putfield 15, 3) := by decide +kernel
theorem d3_18 : decode prog_4_method_1_code 18 = .ok (.aload_n 0, 1) := by decide +kernel
theorem d3_19 : decode prog_4_method_1_code 19 = .ok (.bipush 60, 2) := by decide +kernel
theorem d3_21 : decode prog_4_method_1_code 21 = .ok (.newarray .int, 2) := by decide +kernel
theorem d3_23 : decode prog_4_method_1_code 23 = .ok (.putfield 19, 3) := by decide +kernel
theorem d3_26 : decode prog_4_method_1_code 26 = .ok (.aload_n 0, 1) := by decide +kernel
theorem d3_27 : decode prog_4_method_1_code 27 = .ok (.bipush 60, 2) := by decide +kernel
theorem d3_29 : decode prog_4_method_1_code 29 = .ok (.newarray .boolean, 2) := by decide +kernel
theorem d3_31 : decode prog_4_method_1_code 31 = .ok (.putfield 22, 3) := by decide +kernel
theorem d3_34 : decode prog_4_method_1_code 34 = .ok (.aload_n 0, 1) := by decide +kernel
theorem d3_35 : decode prog_4_method_1_code 35 = .ok (.bipush 60, 2) := by decide +kernel
theorem d3_37 : decode prog_4_method_1_code 37 = .ok (.newarray .long, 2) := by decide +kernel
theorem d3_39 : decode prog_4_method_1_code 39 = .ok (.putfield 26, 3) := by decide +kernel
theorem d3_42 : decode prog_4_method_1_code 42 = .ok (.aload_n 0, 1) := by decide +kernel
theorem d3_43 : decode prog_4_method_1_code 43 = .ok (.bipush 60, 2) := by decide +kernel
theorem d3_45 : decode prog_4_method_1_code 45 = .ok (.newarray .int, 2) := by decide +kernel
theorem d3_47 : decode prog_4_method_1_code 47 = .ok (.putfield 29, 3) := by decide +kernel
theorem d3_50 : decode prog_4_method_1_code 50 = .ok (.aload_n 0, 1) := by decide +kernel
theorem d3_51 : decode prog_4_method_1_code 51 = .ok (.iconst 0, 1) := by decide +kernel
theorem d3_52 : decode prog_4_method_1_code 52 = .ok (.putfield 32, 3) := by decide +kernel
theorem d3_55 : decode prog_4_method_1_code 55 = .ok (.aload_n 0, 1) := by decide +kernel
theorem d3_56 : decode prog_4_method_1_code 56 = .ok (.sipush 500, 3) := by decide +kernel
theorem d3_59 : decode prog_4_method_1_code 59 = .ok (.putfield 38, 3) := by decide +kernel
theorem d3_62 : decode prog_4_method_1_code 62 = .ok (.return_, 1) := by decide +kernel
theorem d4_0 : decode prog_6_method_1_code 0 = .ok (.aload_n 0, 1) := by decide +kernel
theorem d4_1 : decode prog_6_method_1_code 1 = .ok (.invokespecial 3, 3) := by decide +kernel
theorem d4_4 : decode prog_6_method_1_code 4 = .ok (.aload_n 0, 1) := by decide +kernel
theorem d4_5 : decode prog_6_method_1_code 5 = .ok (.aload_n 1, 1) := by decide +kernel
theorem d4_6 : decode prog_6_method_1_code 6 = .ok (.putfield 9, 3) := by decide +kernel
theorem d4_9 : decode prog_6_method_1_code 9 = .ok (.aload_n 0, 1) := by decide +kernel
theorem d4_10 : decode prog_6_method_1_code 10 = .ok (.aload_n 2, 1) := by decide +kernel
theorem d4_11 : decode prog_6_method_1_code 11 = .ok (.putfield 15, 3) := by decide +kernel
theorem d4_14 : decode prog_6_method_1_code 14 = .ok (.aload_n 0, 1) := by decide +kernel
theorem d4_15 : decode prog_6_method_1_code 15 = .ok (.iconst 0, 1) := by decide +kernel
theorem d4_16 : decode prog_6_method_1_code 16 = .ok (.putfield 19, 3) := by decide +kernel
theorem d4_19 : decode prog_6_method_1_code 19 = .ok (.aload_n 0, 1) := by decide +kernel
theorem d4_20 : decode prog_6_method_1_code 20 = .ok (.iconst 0, 1) := by decide +kernel
theorem d4_21 : decode prog_6_method_1_code 21 = .ok (.putfield 23, 3) := by decide +kernel
theorem d4_24 : decode prog_6_method_1_code 24 = .ok (.return_, 1) := by decide +kernel
theorem d5_0 : decode prog_10_method_1_code 0 = .ok (.aload_n 0, 1) := by decide +kernel
theorem d5_1 : decode prog_10_method_1_code 1 = .ok (.invokespecial 1, 3) := by decide +kernel
theorem d5_4 : decode prog_10_method_1_code 4 = .ok (.aload_n 0, 1) := by decide +kernel
theorem d5_5 : decode prog_10_method_1_code 5 = .ok (.iconst 0, 1) := by decide +kernel
theorem d5_6 : decode prog_10_method_1_code 6 = .ok (.putfield 7, 3) := by decide +kernel
theorem d5_9 : decode prog_10_method_1_code 9 = .ok (.aload_n 0, 1) := by decide +kernel
theorem d5_10 : decode prog_10_method_1_code 10 = .ok (.iconst 0, 1) := by decide +kernel
theorem d5_11 : decode prog_10_method_1_code 11 = .ok (.putfield 13, 3) := by decide +kernel
theorem d5_14 : decode prog_10_method_1_code 14 = .ok (.aload_n 0, 1) := by decide +kernel
theorem d5_15 : decode prog_10_method_1_code 15 = .ok (.iconst (-1), 1) := by decide +kernel
theorem d5_16 : decode prog_10_method_1_code 16 = .ok (.putfield 16, 3) := by decide +kernel
theorem d5_19 : decode prog_10_method_1_code 19 = .ok (.aload_n 0, 1) := by decide +kernel
theorem d5_20 : decode prog_10_method_1_code 20 = .ok (.iconst 0, 1) := by decide +kernel
theorem d5_21 : decode prog_10_method_1_code 21 = .ok (.putfield 19, 3) := by decide +kernel
theorem d5_24 : decode prog_10_method_1_code 24 = .ok (.aload_n 0, 1) := by decide +kernel
theorem d5_25 : decode prog_10_method_1_code 25 = .ok (.iconst 0, 1) := by decide +kernel
theorem d5_26 : decode prog_10_method_1_code 26 = .ok (.putfield 22, 3) := by decide +kernel
theorem d5_29 : decode prog_10_method_1_code 29 = .ok (.aload_n 0, 1) := by decide +kernel
theorem d5_30 : decode prog_10_method_1_code 30 = .ok (.bipush 60, 2) := by decide +kernel
theorem d5_32 : decode prog_10_method_1_code 32 = .ok (.newarray .int, 2) := by decide +kernel
theorem d5_34 : decode prog_10_method_1_code 34 = .ok (.putfield 25, 3) := by decide +kernel
theorem d5_37 : decode prog_10_method_1_code 37 = .ok (.aload_n 0, 1) := by decide +kernel
theorem d5_38 : decode prog_10_method_1_code 38 = .ok (.bipush 60, 2) := by decide +kernel
theorem d5_40 : decode prog_10_method_1_code 40 = .ok (.newarray .int, 2) := by decide +kernel
theorem d5_42 : decode prog_10_method_1_code 42 = .ok (.putfield 29, 3) := by decide +kernel
theorem d5_45 : decode prog_10_method_1_code 45 = .ok (.aload_n 0, 1) := by decide +kernel
theorem d5_46 : decode prog_10_method_1_code 46 = .ok (.bipush 60, 2) := by decide +kernel
theorem d5_48 : decode prog_10_method_1_code 48 = .ok (.newarray .int, 2) := by decide +kernel
theorem d5_50 : decode prog_10_method_1_code 50 = .ok (.putfield 32, 3) := by decide +kernel
theorem d5_53 : decode prog_10_method_1_code 53 = .ok (.aload_n 0, 1) := by decide +kernel
theorem d5_54 : decode prog_10_method_1_code 54 = .ok (.bipush 60, 2) := by decide +kernel
theorem d5_56 : decode prog_10_method_1_code 56 = .ok (.newarray .int, 2) := by decide +kernel
theorem d5_58 : decode prog_10_method_1_code 58 = .ok (.putfield 35, 3) := by decide +kernel
theorem d5_61 : decode prog_10_method_1_code 61 = .ok (.aload_n 0, 1) := by decide +kernel
theorem d5_62 : decode prog_10_method_1_code 62 = .ok (.bipush 60, 2) := by decide +kernel
theorem d5_64 : decode prog_10_method_1_code 64 = .ok (.newarray .int, 2) := by decide +kernel
theorem d5_66 : decode prog_10_method_1_code 66 = .ok (.putfield 38, 3) := by decide +kernel
theorem d5_69 : decode prog_10_method_1_code 69 = .ok (.aload_n 0, 1) := by decide +kernel
theorem d5_70 : decode prog_10_method_1_code 70 = .ok (.bipush 8, 2) := by decide +kernel
theorem d5_72 : decode prog_10_method_1_code 72 = .ok (.newarray .boolean, 2) := by decide +kernel
theorem d5_74 : decode prog_10_method_1_code 74 = .ok (.putfield 41, 3) := by decide +kernel
theorem d5_77 : decode prog_10_method_1_code 77 = .ok (.aload_n 0, 1) := by decide +kernel
theorem d5_78 : decode prog_10_method_1_code 78 = .ok (.bipush 8, 2) := by decide +kernel
theorem d5_80 : decode prog_10_method_1_code 80 = .ok (.newarray .int, 2) := by decide +kernel
theorem d5_82 : decode prog_10_method_1_code 82 = .ok (.putfield 45, 3) := by decide +kernel
theorem d5_85 : decode prog_10_method_1_code 85 = .ok (.aload_n 0, 1) := by decide +kernel
theorem d5_86 : decode prog_10_method_1_code 86 = .ok (.bipush 8, 2) := by decide +kernel
theorem d5_88 : decode prog_10_method_1_code 88 = .ok (.newarray .int, 2) := by decide +kernel
theorem d5_90 : decode prog_10_method_1_code 90 = .ok (.putfield 48, 3) := by decide +kernel
theorem d5_93 : decode prog_10_method_1_code 93 = .ok (.aload_n 0, 1) := by decide +kernel
theorem d5_94 : decode prog_10_method_1_code 94 = .ok (.bipush 8, 2) := by decide +kernel
theorem d5_96 : decode prog_10_method_1_code 96 = .ok (.newarray .int, 2) := by decide +kernel
theorem d5_98 : decode prog_10_method_1_code 98 = .ok (.putfield 51, 3) := by decide +kernel
theorem d5_101 : decode prog_10_method_1_code 101 = .ok (.aload_n 0, 1) := by decide +kernel
theorem d5_102 : decode prog_10_method_1_code 102 = .ok (.bipush 8, 2) := by decide +kernel
theorem d5_104 : decode prog_10_method_1_code 104 = .ok (.newarray .int, 2) := by decide +kernel
theorem d5_106 : decode prog_10_method_1_code 106 = .ok (.putfield 54, 3) := by decide +kernel
theorem d5_109 : decode prog_10_method_1_code 109 = .ok (.aload_n 0, 1) := by decide +kernel
theorem d5_110 : decode prog_10_method_1_code 110 = .ok (.bipush 20, 2) := by decide +kernel
theorem d5_112 : decode prog_10_method_1_code 112 = .ok (.newarray .int, 2) := by decide +kernel
theorem d5_114 : decode prog_10_method_1_code 114 = .ok (.putfield 57, 3) := by decide +kernel
theorem d5_117 : decode prog_10_method_1_code 117 = .ok (.aload_n 0, 1) := by decide +kernel
theorem d5_118 : decode prog_10_method_1_code 118 = .ok (.bipush 20, 2) := by decide +kernel
theorem d5_120 : decode prog_10_method_1_code 120 = .ok (.newarray .int, 2) := by decide +kernel
theorem d5_122 : decode prog_10_method_1_code 122 = .ok (.putfield 60, 3) := by decide +kernel
theorem d5_125 : decode prog_10_method_1_code 125 = .ok (.aload_n 0, 1) := by decide +kernel
theorem d5_126 : decode prog_10_method_1_code 126 = .ok (.bipush 20, 2) := by decide +kernel
theorem d5_128 : decode prog_10_method_1_code 128 = .ok (.newarray .int, 2) := by decide +kernel
theorem d5_130 : decode prog_10_method_1_code 130 = .ok (.putfield 63, 3) := by decide +kernel
theorem d5_133 : decode prog_10_method_1_code 133 = .ok (.aload_n 0, 1) := by decide +kernel
theorem d5_134 : decode prog_10_method_1_code 134 = .ok (.sipush 1200, 3) := by decide +kernel
theorem d5_137 : decode prog_10_method_1_code 137 = .ok (.newarray .boolean, 2) := by decide +kernel
theorem d5_139 : decode prog_10_method_1_code 139 = .ok (.putfield 66, 3) := by decide +kernel
theorem d5_142 : decode prog_10_method_1_code 142 = .ok (.aload_n 0, 1) := by decide +kernel
theorem d5_143 : decode prog_10_method_1_code 143 = .ok (.sipush 1200, 3) := by decide +kernel
theorem d5_146 : decode prog_10_method_1_code 146 = .ok (.newarray .boolean, 2) := by decide +kernel
theorem d5_148 : decode prog_10_method_1_code 148 = .ok (.putfield 69, 3) := by decide +kernel
theorem d5_151 : decode prog_10_method_1_code 151 = .ok (.aload_n 0, 1) := by decide +kernel
theorem d5_152 : decode prog_10_method_1_code 152 = .ok (.sipush 1200, 3) := by decide +kernel
theorem d5_155 : decode prog_10_method_1_code 155 = .ok (.newarray .int, 2) := by decide +kernel
theorem d5_157 : decode prog_10_method_1_code 157 = .ok (.putfield 72, 3) := by decide +kernel
theorem d5_160 : decode prog_10_method_1_code 160 = .ok (.aload_n 0, 1) := by decide +kernel
theorem d5_161 : decode prog_10_method_1_code 161 = .ok (.sipush 1200, 3) := by decide +kernel
theorem d5_164 : decode prog_10_method_1_code 164 = .ok (.newarray .int, 2) := by decide +kernel
theorem d5_166 : decode prog_10_method_1_code 166 = .ok (.putfield 75, 3) := by decide +kernel
theorem d5_169 : decode prog_10_method_1_code 169 = .ok (.aload_n 0, 1) := by decide +kernel
theorem d5_170 : decode prog_10_method_1_code 170 = .ok (.sipush 1200, 3) := by decide +kernel
theorem d5_173 : decode prog_10_method_1_code 173 = .ok (.newarray .long, 2) := by decide +kernel
theorem d5_175 : decode prog_10_method_1_code 175 = .ok (.putfield 78, 3) := by decide +kernel
theorem d5_178 : decode prog_10_method_1_code 178 = .ok (.aload_n 0, 1) := by decide +kernel
theorem d5_179 : decode prog_10_method_1_code 179 = .ok (.bipush 7, 2) := by decide +kernel
theorem d5_181 : decode prog_10_method_1_code 181 = .ok (.newarray .int, 2) := by decide +kernel
theorem d5_183 : decode prog_10_method_1_code 183 = .ok (.putfield 82, 3) := by decide +kernel
theorem d5_186 : decode prog_10_method_1_code 186 = .ok (.aload_n 0, 1) := by decide +kernel
theorem d5_187 : decode prog_10_method_1_code 187 = .ok (.bipush 64, 2) := by decide +kernel
theorem d5_189 : decode prog_10_method_1_code 189 = .ok (.newarray .int, 2) := by decide +kernel
theorem d5_191 : decode prog_10_method_1_code 191 = .ok (.putfield 85, 3) := by decide +kernel
theorem d5_194 : decode prog_10_method_1_code 194 = .ok (.aload_n 0, 1) := by decide +kernel
theorem d5_195 : decode prog_10_method_1_code 195 = .ok (.bipush 64, 2) := by decide +kernel
theorem d5_197 : decode prog_10_method_1_code 197 = .ok (.newarray .int, 2) := by decide +kernel
theorem d5_199 : decode prog_10_method_1_code 199 = .ok (.putfield 88, 3) := by decide +kernel
theorem d5_202 : decode prog_10_method_1_code 202 = .ok (.aload_n 0, 1) := by decide +kernel
theorem d5_203 : decode prog_10_method_1_code 203 = .ok (.bipush 7, 2) := by decide +kernel
theorem d5_205 : decode prog_10_method_1_code 205 = .ok (.newarray .long, 2) := by decide +kernel
theorem d5_207 : decode prog_10_method_1_code 207 = .ok (.putfield 91, 3) := by decide +kernel
theorem d5_210 : decode prog_10_method_1_code 210 = .ok (.aload_n 0, 1) := by decide +kernel
theorem d5_211 : decode prog_10_method_1_code 211 = .ok (.bipush 7, 2) := by decide +kernel
theorem d5_213 : decode prog_10_method_1_code 213 = .ok (.newarray .long, 2) := by decide +kernel
theorem d5_215 : decode prog_10_method_1_code 215 = .ok (.putfield 94, 3) := by decide +kernel
theorem d5_218 : decode prog_10_method_1_code 218 = .ok (.aload_n 0, 1) := by decide +kernel
theorem d5_219 : decode prog_10_method_1_code 219 = .ok (.bipush 64, 2) := by decide +kernel
theorem d5_221 : decode prog_10_method_1_code 221 = .ok (.newarray .long, 2) := by decide +kernel
theorem d5_223 : decode prog_10_method_1_code 223 = .ok (.putfield 97, 3) := by decide +kernel
theorem d5_226 : decode prog_10_method_1_code 226 = .ok (.aload_n 0, 1) := by decide +kernel
theorem d5_227 : decode prog_10_method_1_code 227 = .ok (.bipush 64, 2) := by decide +kernel
theorem d5_229 : decode prog_10_method_1_code 229 = .ok (.newarray .long, 2) := by decide +kernel
theorem d5_231 : decode prog_10_method_1_code 231 = .ok (.putfield 100, 3) := by decide +kernel
theorem d5_234 : decode prog_10_method_1_code 234 = .ok (.aload_n 0, 1) := by decide +kernel
theorem d5_235 : decode prog_10_method_1_code 235 = .ok (.iconst 0, 1) := by decide +kernel
theorem d5_236 : decode prog_10_method_1_code 236 = .ok (.putfield 103, 3) := by decide +kernel
theorem d5_239 : decode prog_10_method_1_code 239 = .ok (.aload_n 0, 1) := by decide +kernel
theorem d5_240 : decode prog_10_method_1_code 240 = .ok (.iconst 0, 1) := by decide +kernel
theorem d5_241 : decode prog_10_method_1_code 241 = .ok (.putfield 106, 3) := by decide +kernel
theorem d5_244 : decode prog_10_method_1_code 244 = .ok (.aload_n 0, 1) := by decide +kernel
theorem d5_245 : decode prog_10_method_1_code 245 = .ok (.iconst 0, 1) := by decide +kernel
theorem d5_246 : decode prog_10_method_1_code 246 = .ok (.putfield 109, 3) := by decide +kernel
theorem d5_249 : decode prog_10_method_1_code 249 = .ok (.aload_n 0, 1) := by decide +kernel
theorem d5_250 : decode prog_10_method_1_code 250 = .ok (.lconst 0, 1) := by decide +kernel
theorem d5_251 : decode prog_10_method_1_code 251 = .ok (.putfield 112, 3) := by decide +kernel
theorem d5_254 : decode prog_10_method_1_code 254 = .ok (.aload_n 0, 1) := by decide +kernel
theorem d5_255 : decode prog_10_method_1_code 255 = .ok (.lconst 0, 1) := by decide +kernel
theorem d5_256 : decode prog_10_method_1_code 256 = .ok (.putfield 116, 3) := by decide +kernel
theorem d5_259 : decode prog_10_method_1_code 259 = .ok (.aload_n 0, 1) := by decide +kernel
theorem d5_260 : decode prog_10_method_1_code 260 = .ok (.bipush 20, 2) := by decide +kernel
theorem d5_262 : decode prog_10_method_1_code 262 = .ok (.newarray .long, 2) := by decide +kernel
theorem d5_264 : decode prog_10_method_1_code 264 = .ok (.putfield 119, 3) := by decide +kernel
theorem d5_267 : decode prog_10_method_1_code 267 = .ok (.aload_n 0, 1) := by decide +kernel
theorem d5_268 : decode prog_10_method_1_code 268 = .ok (.bipush 20, 2) := by decide +kernel
theorem d5_270 : decode prog_10_method_1_code 270 = .ok (.newarray .long, 2) := by decide +kernel
theorem d5_272 : decode prog_10_method_1_code 272 = .ok (.putfield 122, 3) := by decide +kernel
theorem d5_275 : decode prog_10_method_1_code 275 = .ok (.return_, 1) := by decide +kernel
theorem d8_0 : decode prog_1_method_2_code 0 = .ok (.aload_n 0, 1) := by decide +kernel
theorem d8_1 : decode prog_1_method_2_code 1 = .ok (.getfield 15, 3) := by decide +kernel
theorem d8_4 : decode prog_1_method_2_code 4 = .ok (.iload_n 1, 1) := by decide +kernel
theorem d8_5 : decode prog_1_method_2_code 5 = .ok (.iload_n 2, 1) := by decide +kernel
theorem d8_6 : decode prog_1_method_2_code 6 = .ok (.iload_n 3, 1) := by decide +kernel
theorem d8_7 : decode prog_1_method_2_code 7 = .ok (.iload 4, 2) := by decide +kernel
theorem d8_9 : decode prog_1_method_2_code 9 = .ok (.invokevirtual 38, 3) := by decide +kernel
theorem d8_12 : decode prog_1_method_2_code 12 = .ok (.ireturn, 1) := by decide +kernel
theorem d9_0 : decode prog_1_method_3_code 0 = .ok (.aload_n 0, 1) := by decide +kernel
theorem d9_1 : decode prog_1_method_3_code 1 = .ok (.getfield 15, 3) := by decide +kernel
theorem d9_4 : decode prog_1_method_3_code 4 = .ok (.iload_n 1, 1) := by decide +kernel
theorem d9_5 : decode prog_1_method_3_code 5 = .ok (.iload_n 2, 1) := by decide +kernel
theorem d9_6 : decode prog_1_method_3_code 6 = .ok (.iload_n 3, 1) := by decide +kernel
theorem d9_7 : decode prog_1_method_3_code 7 = .ok (.iload 4, 2) := by decide +kernel
theorem d9_9 : decode prog_1_method_3_code 9 = .ok (.iload 5, 2) := by decide +kernel
theorem d9_11 : decode prog_1_method_3_code 11 = .ok (.invokevirtual 42, 3) := by decide +kernel
theorem d9_14 : decode prog_1_method_3_code 14 = .ok (.ireturn, 1) := by decide +kernel
theorem d10_0 : decode prog_1_method_4_code 0 = .ok (.aload_n 0, 1) := by decide +kernel
theorem d10_1 : decode prog_1_method_4_code 1 = .ok (.getfield 15, 3) := by decide +kernel
theorem d10_4 : decode prog_1_method_4_code 4 = .ok (.iload_n 1, 1) := by decide +kernel
theorem d10_5 : decode prog_1_method_4_code 5 = .ok (.invokevirtual 46, 3) := by decide +kernel
theorem d10_8 : decode prog_1_method_4_code 8 = .ok (.ifCond .eq 18, 3) := by decide +kernel
theorem d10_11 : decode prog_1_method_4_code 11 = .ok (.aload_n 0, 1) := by decide +kernel
theorem d10_12 : decode prog_1_method_4_code 12 = .ok (.getfield 21, 3) := by decide +kernel
theorem d10_15 : decode prog_1_method_4_code 15 = .ok (.iload_n 1, 1) := by decide +kernel
theorem d10_16 : decode prog_1_method_4_code 16 = .ok (.iload_n 2, 1) := by decide +kernel
theorem d10_17 : decode prog_1_method_4_code 17 = .ok (.i2l, 1) := by decide +kernel
theorem d10_18 : decode prog_1_method_4_code 18 = .ok (.iload_n 3, 1) := by decide +kernel
theorem d10_19 : decode prog_1_method_4_code 19 = .ok (.i2l, 1) := by decide +kernel
theorem d10_20 : decode prog_1_method_4_code 20 = .ok (.invokevirtual 50, 3) := by decide +kernel
theorem d10_23 : decode prog_1_method_4_code 23 = .ok (.goto 4, 3) := by decide +kernel
theorem d10_26 : decode prog_1_method_4_code 26 = .ok (.iconst (-1), 1) := by decide +kernel
theorem d10_27 : decode prog_1_method_4_code 27 = .ok (.ireturn, 1) := by decide +kernel
theorem d11_0 : decode prog_1_method_5_code 0 = .ok (.aload_n 0, 1) := by decide +kernel
theorem d11_1 : decode prog_1_method_5_code 1 = .ok (.getfield 21, 3) := by decide +kernel
theorem d11_4 : decode prog_1_method_5_code 4 = .ok (.getfield 54, 3) := by decide +kernel
theorem d11_7 : decode prog_1_method_5_code 7 = .ok (.ireturn, 1) := by decide +kernel
theorem d12_0 : decode prog_1_method_6_code 0 = .ok (.aload_n 0, 1) := by decide +kernel
theorem d12_1 : decode prog_1_method_6_code 1 = .ok (.getfield 21, 3) := by decide +kernel
theorem d12_4 : decode prog_1_method_6_code 4 = .ok (.iload_n 1, 1) := by decide +kernel
theorem d12_5 : decode prog_1_method_6_code 5 = .ok (.invokevirtual 58, 3) := by decide +kernel
theorem d12_8 : decode prog_1_method_6_code 8 = .ok (.ifCond .eq 18, 3) := by decide +kernel
theorem d12_11 : decode prog_1_method_6_code 11 = .ok (.aload_n 0, 1) := by decide +kernel
theorem d12_12 : decode prog_1_method_6_code 12 = .ok (.getfield 21, 3) := by decide +kernel
theorem d12_15 : decode prog_1_method_6_code 15 = .ok (.getfield 27, 3) := by decide +kernel
theorem d12_18 : decode prog_1_method_6_code 18 = .ok (.iload_n 1, 1) := by decide +kernel
theorem d12_19 : decode prog_1_method_6_code 19 = .ok (.aaload, 1) := by decide +kernel
theorem d12_20 : decode prog_1_method_6_code 20 = .ok (.getfield 61, 3) := by decide +kernel
theorem d12_23 : decode prog_1_method_6_code 23 = .ok (.goto 4, 3) := by decide +kernel
theorem d12_26 : decode prog_1_method_6_code 26 = .ok (.iconst (-1), 1) := by decide +kernel
theorem d12_27 : decode prog_1_method_6_code 27 = .ok (.ireturn, 1) := by decide +kernel
theorem d13_0 : decode prog_1_method_7_code 0 = .ok (.aload_n 0, 1) := by decide +kernel
theorem d13_1 : decode prog_1_method_7_code 1 = .ok (.getfield 21, 3) := by decide +kernel
theorem d13_4 : decode prog_1_method_7_code 4 = .ok (.iload_n 1, 1) := by decide +kernel
theorem d13_5 : decode prog_1_method_7_code 5 = .ok (.invokevirtual 58, 3) := by decide +kernel
theorem d13_8 : decode prog_1_method_7_code 8 = .ok (.ifCond .eq 12, 3) := by decide +kernel
theorem d13_11 : decode prog_1_method_7_code 11 = .ok (.iload_n 2, 1) := by decide +kernel
theorem d13_12 : decode prog_1_method_7_code 12 = .ok (.ifCond .lt 8, 3) := by decide +kernel
theorem d13_15 : decode prog_1_method_7_code 15 = .ok (.iload_n 2, 1) := by decide +kernel
theorem d13_16 : decode prog_1_method_7_code 16 = .ok (.iconst 1, 1) := by decide +kernel
theorem d13_17 : decode prog_1_method_7_code 17 = .ok (.if_icmp .le 7, 3) := by decide +kernel
theorem d13_20 : decode prog_1_method_7_code 20 = .ok (.ldc2_w 66, 3) := by decide +kernel
theorem d13_23 : decode prog_1_method_7_code 23 = .ok (.lreturn, 1) := by decide +kernel
theorem d13_24 : decode prog_1_method_7_code 24 = .ok (.aload_n 0, 1) := by decide +kernel
theorem d13_25 : decode prog_1_method_7_code 25 = .ok (.getfield 21, 3) := by decide +kernel
theorem d13_28 : decode prog_1_method_7_code 28 = .ok (.getfield 27, 3) := by decide +kernel
theorem d13_31 : decode prog_1_method_7_code 31 = .ok (.iload_n 1, 1) := by decide +kernel
theorem d13_32 : decode prog_1_method_7_code 32 = .ok (.aaload, 1) := by decide +kernel
theorem d13_33 : decode prog_1_method_7_code 33 = .ok (.astore_n 3, 1) := by decide +kernel
theorem d13_34 : decode prog_1_method_7_code 34 = .ok (.aload_n 3, 1) := by decide +kernel
theorem d13_35 : decode prog_1_method_7_code 35 = .ok (.getfield 68, 3) := by decide +kernel
theorem d13_38 : decode prog_1_method_7_code 38 = .ok (.iload_n 2, 1) := by decide +kernel
theorem d13_39 : decode prog_1_method_7_code 39 = .ok (.iaload, 1) := by decide +kernel
theorem d13_40 : decode prog_1_method_7_code 40 = .ok (.sipush 300, 3) := by decide +kernel
theorem d13_43 : decode prog_1_method_7_code 43 = .ok (.if_icmp .ne 12, 3) := by decide +kernel
theorem d13_46 : decode prog_1_method_7_code 46 = .ok (.aload_n 3, 1) := by decide +kernel
theorem d13_47 : decode prog_1_method_7_code 47 = .ok (.getfield 74, 3) := by decide +kernel
theorem d13_50 : decode prog_1_method_7_code 50 = .ok (.iload_n 2, 1) := by decide +kernel
theorem d13_51 : decode prog_1_method_7_code 51 = .ok (.laload, 1) := by decide +kernel
theorem d13_52 : decode prog_1_method_7_code 52 = .ok (.goto 6, 3) := by decide +kernel
theorem d13_55 : decode prog_1_method_7_code 55 = .ok (.ldc2_w 66, 3) := by decide +kernel
theorem d13_58 : decode prog_1_method_7_code 58 = .ok (.lreturn, 1) := by decide +kernel
theorem d14_0 : decode prog_1_method_8_code 0 = .ok (.aload_n 0, 1) := by decide +kernel
theorem d14_1 : decode prog_1_method_8_code 1 = .ok (.getfield 21, 3) := by decide +kernel
theorem d14_4 : decode prog_1_method_8_code 4 = .ok (.iload_n 1, 1) := by decide +kernel
theorem d14_5 : decode prog_1_method_8_code 5 = .ok (.invokevirtual 58, 3) := by decide +kernel
theorem d14_8 : decode prog_1_method_8_code 8 = .ok (.ifCond .eq 14, 3) := by decide +kernel
theorem d14_11 : decode prog_1_method_8_code 11 = .ok (.aload_n 0, 1) := by decide +kernel
theorem d14_12 : decode prog_1_method_8_code 12 = .ok (.getfield 15, 3) := by decide +kernel
theorem d14_15 : decode prog_1_method_8_code 15 = .ok (.iload_n 2, 1) := by decide +kernel
theorem d14_16 : decode prog_1_method_8_code 16 = .ok (.invokevirtual 78, 3) := by decide +kernel
theorem d14_19 : decode prog_1_method_8_code 19 = .ok (.ifCond .ne 5, 3) := by decide +kernel
theorem d14_22 : decode prog_1_method_8_code 22 = .ok (.iconst (-1), 1) := by decide +kernel
theorem d14_23 : decode prog_1_method_8_code 23 = .ok (.ireturn, 1) := by decide +kernel
theorem d14_24 : decode prog_1_method_8_code 24 = .ok (.aload_n 0, 1) := by decide +kernel
theorem d14_25 : decode prog_1_method_8_code 25 = .ok (.getfield 21, 3) := by decide +kernel
theorem d14_28 : decode prog_1_method_8_code 28 = .ok (.getfield 27, 3) := by decide +kernel
theorem d14_31 : decode prog_1_method_8_code 31 = .ok (.iload_n 1, 1) := by decide +kernel
theorem d14_32 : decode prog_1_method_8_code 32 = .ok (.aaload, 1) := by decide +kernel
theorem d14_33 : decode prog_1_method_8_code 33 = .ok (.getfield 81, 3) := by decide +kernel
theorem d14_36 : decode prog_1_method_8_code 36 = .ok (.iload_n 2, 1) := by decide +kernel
theorem d14_37 : decode prog_1_method_8_code 37 = .ok (.iaload, 1) := by decide +kernel
theorem d14_38 : decode prog_1_method_8_code 38 = .ok (.ireturn, 1) := by decide +kernel
theorem d15_0 : decode prog_1_method_9_code 0 = .ok (.aload_n 0, 1) := by decide +kernel
theorem d15_1 : decode prog_1_method_9_code 1 = .ok (.getfield 21, 3) := by decide +kernel
theorem d15_4 : decode prog_1_method_9_code 4 = .ok (.iload_n 1, 1) := by decide +kernel
theorem d15_5 : decode prog_1_method_9_code 5 = .ok (.invokevirtual 58, 3) := by decide +kernel
theorem d15_8 : decode prog_1_method_9_code 8 = .ok (.ifCond .eq 14, 3) := by decide +kernel
theorem d15_11 : decode prog_1_method_9_code 11 = .ok (.aload_n 0, 1) := by decide +kernel
theorem d15_12 : decode prog_1_method_9_code 12 = .ok (.getfield 15, 3) := by decide +kernel
theorem d15_15 : decode prog_1_method_9_code 15 = .ok (.iload_n 2, 1) := by decide +kernel
theorem d15_16 : decode prog_1_method_9_code 16 = .ok (.invokevirtual 78, 3) := by decide +kernel
theorem d15_19 : decode prog_1_method_9_code 19 = .ok (.ifCond .ne 7, 3) := by decide +kernel
theorem d15_22 : decode prog_1_method_9_code 22 = .ok (.ldc2_w 66, 3) := by decide +kernel
theorem d15_25 : decode prog_1_method_9_code 25 = .ok (.lreturn, 1) := by decide +kernel
theorem d15_26 : decode prog_1_method_9_code 26 = .ok (.aload_n 0, 1) := by decide +kernel
theorem d15_27 : decode prog_1_method_9_code 27 = .ok (.getfield 21, 3) := by decide +kernel
theorem d15_30 : decode prog_1_method_9_code 30 = .ok (.getfield 27, 3) := by decide +kernel
theorem d15_33 : decode prog_1_method_9_code 33 = .ok (.iload_n 1, 1) := by decide +kernel
theorem d15_34 : decode prog_1_method_9_code 34 = .ok (.aaload, 1) := by decide +kernel
theorem d15_35 : decode prog_1_method_9_code 35 = .ok (.astore_n 3, 1) := by decide +kernel
theorem d15_36 : decode prog_1_method_9_code 36 = .ok (.aload_n 3, 1) := by decide +kernel
theorem d15_37 : decode prog_1_method_9_code 37 = .ok (.getfield 84, 3) := by decide +kernel
theorem d15_40 : decode prog_1_method_9_code 40 = .ok (.iload_n 2, 1) := by decide +kernel
theorem d15_41 : decode prog_1_method_9_code 41 = .ok (.baload, 1) := by decide +kernel
theorem d15_42 : decode prog_1_method_9_code 42 = .ok (.ifCond .eq 12, 3) := by decide +kernel
theorem d15_45 : decode prog_1_method_9_code 45 = .ok (.aload_n 3, 1) := by decide +kernel
theorem d15_46 : decode prog_1_method_9_code 46 = .ok (.getfield 88, 3) := by decide +kernel
theorem d15_49 : decode prog_1_method_9_code 49 = .ok (.iload_n 2, 1) := by decide +kernel
theorem d15_50 : decode prog_1_method_9_code 50 = .ok (.laload, 1) := by decide +kernel
theorem d15_51 : decode prog_1_method_9_code 51 = .ok (.goto 6, 3) := by decide +kernel
theorem d15_54 : decode prog_1_method_9_code 54 = .ok (.ldc2_w 66, 3) := by decide +kernel
theorem d15_57 : decode prog_1_method_9_code 57 = .ok (.lreturn, 1) := by decide +kernel
theorem d16_0 : decode prog_1_method_10_code 0 = .ok (.aload_n 0, 1) := by decide +kernel
theorem d16_1 : decode prog_1_method_10_code 1 = .ok (.getfield 21, 3) := by decide +kernel
theorem d16_4 : decode prog_1_method_10_code 4 = .ok (.iload_n 1, 1) := by decide +kernel
theorem d16_5 : decode prog_1_method_10_code 5 = .ok (.invokevirtual 58, 3) := by decide +kernel
theorem d16_8 : decode prog_1_method_10_code 8 = .ok (.ifCond .ne 5, 3) := by decide +kernel
theorem d16_11 : decode prog_1_method_10_code 11 = .ok (.iconst (-1), 1) := by decide +kernel
theorem d16_12 : decode prog_1_method_10_code 12 = .ok (.ireturn, 1) := by decide +kernel
theorem d16_13 : decode prog_1_method_10_code 13 = .ok (.aload_n 0, 1) := by decide +kernel
theorem d16_14 : decode prog_1_method_10_code 14 = .ok (.getfield 15, 3) := by decide +kernel
theorem d16_17 : decode prog_1_method_10_code 17 = .ok (.aload_n 0, 1) := by decide +kernel
theorem d16_18 : decode prog_1_method_10_code 18 = .ok (.getfield 21, 3) := by decide +kernel
theorem d16_21 : decode prog_1_method_10_code 21 = .ok (.getfield 27, 3) := by decide +kernel
theorem d16_24 : decode prog_1_method_10_code 24 = .ok (.iload_n 1, 1) := by decide +kernel
theorem d16_25 : decode prog_1_method_10_code 25 = .ok (.aaload, 1) := by decide +kernel
theorem d16_26 : decode prog_1_method_10_code 26 = .ok (.invokevirtual 91, 3) := by decide +kernel
theorem d16_29 : decode prog_1_method_10_code 29 = .ok (.ireturn, 1) := by decide +kernel
theorem d17_0 : decode prog_1_method_11_code 0 = .ok (.aload_n 0, 1) := by decide +kernel
theorem d17_1 : decode prog_1_method_11_code 1 = .ok (.getfield 21, 3) := by decide +kernel
theorem d17_4 : decode prog_1_method_11_code 4 = .ok (.iload_n 1, 1) := by decide +kernel
theorem d17_5 : decode prog_1_method_11_code 5 = .ok (.invokevirtual 58, 3) := by decide +kernel
theorem d17_8 : decode prog_1_method_11_code 8 = .ok (.ifCond .ne 7, 3) := by decide +kernel
theorem d17_11 : decode prog_1_method_11_code 11 = .ok (.ldc2_w 66, 3) := by decide +kernel
theorem d17_14 : decode prog_1_method_11_code 14 = .ok (.lreturn, 1) := by decide +kernel
theorem d17_15 : decode prog_1_method_11_code 15 = .ok (.aload_n 0, 1) := by decide +kernel
theorem d17_16 : decode prog_1_method_11_code 16 = .ok (.getfield 21, 3) := by decide +kernel
theorem d17_19 : decode prog_1_method_11_code 19 = .ok (.getfield 27, 3) := by decide +kernel
theorem d17_22 : decode prog_1_method_11_code 22 = .ok (.iload_n 1, 1) := by decide +kernel
theorem d17_23 : decode prog_1_method_11_code 23 = .ok (.aaload, 1) := by decide +kernel
theorem d17_24 : decode prog_1_method_11_code 24 = .ok (.astore 4, 2) := by decide +kernel
theorem d17_26 : decode prog_1_method_11_code 26 = .ok (.aload 4, 2) := by decide +kernel
theorem d17_28 : decode prog_1_method_11_code 28 = .ok (.iconst 0, 1) := by decide +kernel
theorem d17_29 : decode prog_1_method_11_code 29 = .ok (.iload_n 2, 1) := by decide +kernel
theorem d17_30 : decode prog_1_method_11_code 30 = .ok (.i2l, 1) := by decide +kernel
theorem d17_31 : decode prog_1_method_11_code 31 = .ok (.invokevirtual 95, 3) := by decide +kernel
theorem d17_34 : decode prog_1_method_11_code 34 = .ok (.ifCond .eq 14, 3) := by decide +kernel
theorem d17_37 : decode prog_1_method_11_code 37 = .ok (.aload 4, 2) := by decide +kernel
theorem d17_39 : decode prog_1_method_11_code 39 = .ok (.iconst 1, 1) := by decide +kernel
theorem d17_40 : decode prog_1_method_11_code 40 = .ok (.iload_n 3, 1) := by decide +kernel
theorem d17_41 : decode prog_1_method_11_code 41 = .ok (.i2l, 1) := by decide +kernel
theorem d17_42 : decode prog_1_method_11_code 42 = .ok (.invokevirtual 95, 3) := by decide +kernel
theorem d17_45 : decode prog_1_method_11_code 45 = .ok (.ifCond .ne 7, 3) := by decide +kernel
theorem d17_48 : decode prog_1_method_11_code 48 = .ok (.ldc2_w 66, 3) := by decide +kernel
theorem d17_51 : decode prog_1_method_11_code 51 = .ok (.lreturn, 1) := by decide +kernel
theorem d17_52 : decode prog_1_method_11_code 52 = .ok (.aload_n 0, 1) := by decide +kernel
theorem d17_53 : decode prog_1_method_11_code 53 = .ok (.getfield 34, 3) := by decide +kernel
theorem d17_56 : decode prog_1_method_11_code 56 = .ok (.aload 4, 2) := by decide +kernel
theorem d17_58 : decode prog_1_method_11_code 58 = .ok (.iload_n 2, 1) := by decide +kernel
theorem d17_59 : decode prog_1_method_11_code 59 = .ok (.i2l, 1) := by decide +kernel
theorem d17_60 : decode prog_1_method_11_code 60 = .ok (.iload_n 3, 1) := by decide +kernel
theorem d17_61 : decode prog_1_method_11_code 61 = .ok (.i2l, 1) := by decide +kernel
theorem d17_62 : decode prog_1_method_11_code 62 = .ok (.invokevirtual 99, 3) := by decide +kernel
theorem d17_65 : decode prog_1_method_11_code 65 = .ok (.lreturn, 1) := by decide +kernel
theorem d18_0 : decode prog_1_method_12_code 0 = .ok (.iload_n 1, 1) := by decide +kernel
theorem d18_1 : decode prog_1_method_12_code 1 = .ok (.tableswitch 63 0 3 #[31, 39, 47, 55], 31) := by decide +kernel
theorem tk18_1 : mm_tk 0 3 #[31, 39, 47, 55] := by unfold mm_tk; decide +kernel
theorem d18_32 : decode prog_1_method_12_code 32 = .ok (.aload_n 0, 1) := by decide +kernel
theorem d18_33 : decode prog_1_method_12_code 33 = .ok (.getfield 15, 3) := by decide +kernel
theorem d18_36 : decode prog_1_method_12_code 36 = .ok (.getfield 103, 3) := by decide +kernel
theorem d18_39 : decode prog_1_method_12_code 39 = .ok (.ireturn, 1) := by decide +kernel
theorem d18_40 : decode prog_1_method_12_code 40 = .ok (.aload_n 0, 1) := by decide +kernel
theorem d18_41 : decode prog_1_method_12_code 41 = .ok (.getfield 15, 3) := by decide +kernel
theorem d18_44 : decode prog_1_method_12_code 44 = .ok (.getfield 106, 3) := by decide +kernel
theorem d18_47 : decode prog_1_method_12_code 47 = .ok (.ireturn, 1) := by decide +kernel
theorem d18_48 : decode prog_1_method_12_code 48 = .ok (.aload_n 0, 1) := by decide +kernel
theorem d18_49 : decode prog_1_method_12_code 49 = .ok (.getfield 21, 3) := by decide +kernel
theorem d18_52 : decode prog_1_method_12_code 52 = .ok (.getfield 109, 3) := by decide +kernel
theorem d18_55 : decode prog_1_method_12_code 55 = .ok (.ireturn, 1) := by decide +kernel
theorem d18_56 : decode prog_1_method_12_code 56 = .ok (.aload_n 0, 1) := by decide +kernel
theorem d18_57 : decode prog_1_method_12_code 57 = .ok (.getfield 34, 3) := by decide +kernel
theorem d18_60 : decode prog_1_method_12_code 60 = .ok (.getfield 112, 3) := by decide +kernel
theorem d18_63 : decode prog_1_method_12_code 63 = .ok (.ireturn, 1) := by decide +kernel
theorem d18_64 : decode prog_1_method_12_code 64 = .ok (.iconst (-1), 1) := by decide +kernel
theorem d18_65 : decode prog_1_method_12_code 65 = .ok (.ireturn, 1) := by decide +kernel
theorem d19_0 : decode prog_7_method_2_code 0 = .ok (.iload_n 1, 1) := by decide +kernel
theorem d19_1 : decode prog_7_method_2_code 1 = .ok (.ifCond .lt 15, 3) := by decide +kernel
theorem d19_4 : decode prog_7_method_2_code 4 = .ok (.iload_n 1, 1) := by decide +kernel
theorem d19_5 : decode prog_7_method_2_code 5 = .ok (.aload_n 0, 1) := by decide +kernel
theorem d19_6 : decode prog_7_method_2_code 6 = .ok (.getfield 43, 3) := by decide +kernel
theorem d19_9 : decode prog_7_method_2_code 9 = .ok (.if_icmp .ge 7, 3) := by decide +kernel
theorem d19_12 : decode prog_7_method_2_code 12 = .ok (.iconst 1, 1) := by decide +kernel
theorem d19_13 : decode prog_7_method_2_code 13 = .ok (.goto 4, 3) := by decide +kernel
theorem d19_16 : decode prog_7_method_2_code 16 = .ok (.iconst 0, 1) := by decide +kernel
theorem d19_17 : decode prog_7_method_2_code 17 = .ok (.ireturn, 1) := by decide +kernel
theorem d20_0 : decode prog_7_method_3_code 0 = .ok (.iload_n 1, 1) := by decide +kernel
theorem d20_1 : decode prog_7_method_3_code 1 = .ok (.ifCond .lt 22, 3) := by decide +kernel
theorem d20_4 : decode prog_7_method_3_code 4 = .ok (.iload_n 1, 1) := by decide +kernel
theorem d20_5 : decode prog_7_method_3_code 5 = .ok (.bipush 8, 2) := by decide +kernel
theorem d20_7 : decode prog_7_method_3_code 7 = .ok (.if_icmp .ge 16, 3) := by decide +kernel
theorem d20_10 : decode prog_7_method_3_code 10 = .ok (.aload_n 0, 1) := by decide +kernel
theorem d20_11 : decode prog_7_method_3_code 11 = .ok (.getfield 27, 3) := by decide +kernel
theorem d20_14 : decode prog_7_method_3_code 14 = .ok (.iload_n 1, 1) := by decide +kernel
theorem d20_15 : decode prog_7_method_3_code 15 = .ok (.baload, 1) := by decide +kernel
theorem d20_16 : decode prog_7_method_3_code 16 = .ok (.ifCond .eq 7, 3) := by decide +kernel
theorem d20_19 : decode prog_7_method_3_code 19 = .ok (.iconst 1, 1) := by decide +kernel
theorem d20_20 : decode prog_7_method_3_code 20 = .ok (.goto 4, 3) := by decide +kernel
theorem d20_23 : decode prog_7_method_3_code 23 = .ok (.iconst 0, 1) := by decide +kernel
theorem d20_24 : decode prog_7_method_3_code 24 = .ok (.ireturn, 1) := by decide +kernel
theorem d21_0 : decode prog_7_method_4_code 0 = .ok (.aload_n 0, 1) := by decide +kernel
theorem d21_1 : decode prog_7_method_4_code 1 = .ok (.getfield 43, 3) := by decide +kernel
theorem d21_4 : decode prog_7_method_4_code 4 = .ok (.bipush 60, 2) := by decide +kernel
theorem d21_6 : decode prog_7_method_4_code 6 = .ok (.if_icmp .ge 22, 3) := by decide +kernel
theorem d21_9 : decode prog_7_method_4_code 9 = .ok (.iload_n 1, 1) := by decide +kernel
theorem d21_10 : decode prog_7_method_4_code 10 = .ok (.invokestatic 50, 3) := by decide +kernel
theorem d21_13 : decode prog_7_method_4_code 13 = .ok (.ifCond .eq 15, 3) := by decide +kernel
theorem d21_16 : decode prog_7_method_4_code 16 = .ok (.aload_n 0, 1) := by decide +kernel
theorem d21_17 : decode prog_7_method_4_code 17 = .ok (.iload_n 1, 1) := by decide +kernel
theorem d21_18 : decode prog_7_method_4_code 18 = .ok (.iload_n 2, 1) := by decide +kernel
theorem d21_19 : decode prog_7_method_4_code 19 = .ok (.iload_n 3, 1) := by decide +kernel
theorem d21_20 : decode prog_7_method_4_code 20 = .ok (.iload 4, 2) := by decide +kernel
theorem d21_22 : decode prog_7_method_4_code 22 = .ok (.invokevirtual 56, 3) := by decide +kernel
theorem d21_25 : decode prog_7_method_4_code 25 = .ok (.ifCond .ne 5, 3) := by decide +kernel
theorem d21_28 : decode prog_7_method_4_code 28 = .ok (.iconst (-1), 1) := by decide +kernel
theorem d21_29 : decode prog_7_method_4_code 29 = .ok (.ireturn, 1) := by decide +kernel
theorem d21_30 : decode prog_7_method_4_code 30 = .ok (.aload_n 0, 1) := by decide +kernel
theorem d21_31 : decode prog_7_method_4_code 31 = .ok (.iload_n 1, 1) := by decide +kernel
theorem d21_32 : decode prog_7_method_4_code 32 = .ok (.iload_n 2, 1) := by decide +kernel
theorem d21_33 : decode prog_7_method_4_code 33 = .ok (.iload_n 3, 1) := by decide +kernel
theorem d21_34 : decode prog_7_method_4_code 34 = .ok (.iload 4, 2) := by decide +kernel
theorem d21_36 : decode prog_7_method_4_code 36 = .ok (.invokevirtual 60, 3) := by decide +kernel
theorem d21_39 : decode prog_7_method_4_code 39 = .ok (.istore 5, 2) := by decide +kernel
theorem d21_41 : decode prog_7_method_4_code 41 = .ok (.iload 5, 2) := by decide +kernel
theorem d21_43 : decode prog_7_method_4_code 43 = .ok (.bipush 8, 2) := by decide +kernel
theorem d21_45 : decode prog_7_method_4_code 45 = .ok (.if_icmp .le 5, 3) := by decide +kernel
theorem d21_48 : decode prog_7_method_4_code 48 = .ok (.iconst (-1), 1) := by decide +kernel
theorem d21_49 : decode prog_7_method_4_code 49 = .ok (.ireturn, 1) := by decide +kernel
theorem d21_50 : decode prog_7_method_4_code 50 = .ok (.aload_n 0, 1) := by decide +kernel
theorem d21_51 : decode prog_7_method_4_code 51 = .ok (.getfield 43, 3) := by decide +kernel
theorem d21_54 : decode prog_7_method_4_code 54 = .ok (.istore 6, 2) := by decide +kernel
theorem d21_56 : decode prog_7_method_4_code 56 = .ok (.aload_n 0, 1) := by decide +kernel
theorem d21_57 : decode prog_7_method_4_code 57 = .ok (.getfield 9, 3) := by decide +kernel
theorem d21_60 : decode prog_7_method_4_code 60 = .ok (.iload 6, 2) := by decide +kernel
theorem d21_62 : decode prog_7_method_4_code 62 = .ok (.iload_n 1, 1) := by decide +kernel
theorem d21_63 : decode prog_7_method_4_code 63 = .ok (.iastore, 1) := by decide +kernel
theorem d21_64 : decode prog_7_method_4_code 64 = .ok (.aload_n 0, 1) := by decide +kernel
theorem d21_65 : decode prog_7_method_4_code 65 = .ok (.getfield 15, 3) := by decide +kernel
theorem d21_68 : decode prog_7_method_4_code 68 = .ok (.iload 6, 2) := by decide +kernel
theorem d21_70 : decode prog_7_method_4_code 70 = .ok (.iload_n 2, 1) := by decide +kernel
theorem d21_71 : decode prog_7_method_4_code 71 = .ok (.iastore, 1) := by decide +kernel
theorem d21_72 : decode prog_7_method_4_code 72 = .ok (.aload_n 0, 1) := by decide +kernel
theorem d21_73 : decode prog_7_method_4_code 73 = .ok (.getfield 18, 3) := by decide +kernel
theorem d21_76 : decode prog_7_method_4_code 76 = .ok (.iload 6, 2) := by decide +kernel
theorem d21_78 : decode prog_7_method_4_code 78 = .ok (.iload_n 3, 1) := by decide +kernel
theorem d21_79 : decode prog_7_method_4_code 79 = .ok (.iastore, 1) := by decide +kernel
theorem d21_80 : decode prog_7_method_4_code 80 = .ok (.aload_n 0, 1) := by decide +kernel
theorem d21_81 : decode prog_7_method_4_code 81 = .ok (.getfield 21, 3) := by decide +kernel
theorem d21_84 : decode prog_7_method_4_code 84 = .ok (.iload 6, 2) := by decide +kernel
theorem d21_86 : decode prog_7_method_4_code 86 = .ok (.iload 4, 2) := by decide +kernel
theorem d21_88 : decode prog_7_method_4_code 88 = .ok (.iastore, 1) := by decide +kernel
theorem d21_89 : decode prog_7_method_4_code 89 = .ok (.aload_n 0, 1) := by decide +kernel
theorem d21_90 : decode prog_7_method_4_code 90 = .ok (.getfield 24, 3) := by decide +kernel
theorem d21_93 : decode prog_7_method_4_code 93 = .ok (.iload 6, 2) := by decide +kernel
theorem d21_95 : decode prog_7_method_4_code 95 = .ok (.iload 5, 2) := by decide +kernel
theorem d21_97 : decode prog_7_method_4_code 97 = .ok (.iastore, 1) := by decide +kernel
theorem d21_98 : decode prog_7_method_4_code 98 = .ok (.aload_n 0, 1) := by decide +kernel
theorem d21_99 : decode prog_7_method_4_code 99 = .ok (.iload 6, 2) := by decide +kernel
theorem d21_101 : decode prog_7_method_4_code 101 = .ok (.iconst 1, 1) := by decide +kernel
theorem d21_102 : decode prog_7_method_4_code 102 = .ok (.iadd, 1) := by decide +kernel
theorem d21_103 : decode prog_7_method_4_code 103 = .ok (.putfield 43, 3) := by decide +kernel
theorem d21_106 : decode prog_7_method_4_code 106 = .ok (.iload 6, 2) := by decide +kernel
theorem d21_108 : decode prog_7_method_4_code 108 = .ok (.ireturn, 1) := by decide +kernel
theorem d22_0 : decode prog_7_method_5_code 0 = .ok (.iload_n 1, 1) := by decide +kernel
theorem d22_1 : decode prog_7_method_5_code 1 = .ok (.tableswitch 191 0 16 #[83, 85, 191, 191, 191, 191, 191, 191, 191, 191, 191, 191, 191, 100, 131, 152, 185], 83) := by decide +kernel
theorem tk22_1 : mm_tk 0 16 #[83, 85, 191, 191, 191, 191, 191, 191, 191, 191, 191, 191, 191, 100, 131, 152, 185] := by unfold mm_tk; decide +kernel
theorem d22_84 : decode prog_7_method_5_code 84 = .ok (.iconst 1, 1) := by decide +kernel
theorem d22_85 : decode prog_7_method_5_code 85 = .ok (.ireturn, 1) := by decide +kernel
theorem d22_86 : decode prog_7_method_5_code 86 = .ok (.iload_n 2, 1) := by decide +kernel
theorem d22_87 : decode prog_7_method_5_code 87 = .ok (.ifCond .eq 8, 3) := by decide +kernel
theorem d22_90 : decode prog_7_method_5_code 90 = .ok (.iload_n 2, 1) := by decide +kernel
theorem d22_91 : decode prog_7_method_5_code 91 = .ok (.iconst 1, 1) := by decide +kernel
theorem d22_92 : decode prog_7_method_5_code 92 = .ok (.if_icmp .ne 7, 3) := by decide +kernel
theorem d22_95 : decode prog_7_method_5_code 95 = .ok (.iconst 1, 1) := by decide +kernel
theorem d22_96 : decode prog_7_method_5_code 96 = .ok (.goto 4, 3) := by decide +kernel
theorem d22_99 : decode prog_7_method_5_code 99 = .ok (.iconst 0, 1) := by decide +kernel
theorem d22_100 : decode prog_7_method_5_code 100 = .ok (.ireturn, 1) := by decide +kernel
theorem d22_101 : decode prog_7_method_5_code 101 = .ok (.aload_n 0, 1) := by decide +kernel
theorem d22_102 : decode prog_7_method_5_code 102 = .ok (.iload_n 2, 1) := by decide +kernel
theorem d22_103 : decode prog_7_method_5_code 103 = .ok (.invokevirtual 64, 3) := by decide +kernel
theorem d22_106 : decode prog_7_method_5_code 106 = .ok (.ifCond .eq 24, 3) := by decide +kernel
theorem d22_109 : decode prog_7_method_5_code 109 = .ok (.aload_n 0, 1) := by decide +kernel
theorem d22_110 : decode prog_7_method_5_code 110 = .ok (.iload_n 3, 1) := by decide +kernel
theorem d22_111 : decode prog_7_method_5_code 111 = .ok (.invokevirtual 64, 3) := by decide +kernel
theorem d22_114 : decode prog_7_method_5_code 114 = .ok (.ifCond .eq 16, 3) := by decide +kernel
theorem d22_117 : decode prog_7_method_5_code 117 = .ok (.aload_n 0, 1) := by decide +kernel
theorem d22_118 : decode prog_7_method_5_code 118 = .ok (.iload 4, 2) := by decide +kernel
theorem d22_120 : decode prog_7_method_5_code 120 = .ok (.invokevirtual 64, 3) := by decide +kernel
theorem d22_123 : decode prog_7_method_5_code 123 = .ok (.ifCond .eq 7, 3) := by decide +kernel
theorem d22_126 : decode prog_7_method_5_code 126 = .ok (.iconst 1, 1) := by decide +kernel
theorem d22_127 : decode prog_7_method_5_code 127 = .ok (.goto 4, 3) := by decide +kernel
theorem d22_130 : decode prog_7_method_5_code 130 = .ok (.iconst 0, 1) := by decide +kernel
theorem d22_131 : decode prog_7_method_5_code 131 = .ok (.ireturn, 1) := by decide +kernel
theorem d22_132 : decode prog_7_method_5_code 132 = .ok (.aload_n 0, 1) := by decide +kernel
theorem d22_133 : decode prog_7_method_5_code 133 = .ok (.iload_n 2, 1) := by decide +kernel
theorem d22_134 : decode prog_7_method_5_code 134 = .ok (.invokevirtual 64, 3) := by decide +kernel
theorem d22_137 : decode prog_7_method_5_code 137 = .ok (.ifCond .eq 14, 3) := by decide +kernel
theorem d22_140 : decode prog_7_method_5_code 140 = .ok (.iload_n 3, 1) := by decide +kernel
theorem d22_141 : decode prog_7_method_5_code 141 = .ok (.invokestatic 67, 3) := by decide +kernel
theorem d22_144 : decode prog_7_method_5_code 144 = .ok (.ifCond .eq 7, 3) := by decide +kernel
theorem d22_147 : decode prog_7_method_5_code 147 = .ok (.iconst 1, 1) := by decide +kernel
theorem d22_148 : decode prog_7_method_5_code 148 = .ok (.goto 4, 3) := by decide +kernel
theorem d22_151 : decode prog_7_method_5_code 151 = .ok (.iconst 0, 1) := by decide +kernel
theorem d22_152 : decode prog_7_method_5_code 152 = .ok (.ireturn, 1) := by decide +kernel
theorem d22_153 : decode prog_7_method_5_code 153 = .ok (.iload_n 2, 1) := by decide +kernel
theorem d22_154 : decode prog_7_method_5_code 154 = .ok (.ifCond .lt 30, 3) := by decide +kernel
theorem d22_157 : decode prog_7_method_5_code 157 = .ok (.iload_n 2, 1) := by decide +kernel
theorem d22_158 : decode prog_7_method_5_code 158 = .ok (.bipush 8, 2) := by decide +kernel
theorem d22_160 : decode prog_7_method_5_code 160 = .ok (.if_icmp .ge 24, 3) := by decide +kernel
theorem d22_163 : decode prog_7_method_5_code 163 = .ok (.aload_n 0, 1) := by decide +kernel
theorem d22_164 : decode prog_7_method_5_code 164 = .ok (.iload_n 3, 1) := by decide +kernel
theorem d22_165 : decode prog_7_method_5_code 165 = .ok (.invokevirtual 72, 3) := by decide +kernel
theorem d22_168 : decode prog_7_method_5_code 168 = .ok (.ifCond .eq 16, 3) := by decide +kernel
theorem d22_171 : decode prog_7_method_5_code 171 = .ok (.aload_n 0, 1) := by decide +kernel
theorem d22_172 : decode prog_7_method_5_code 172 = .ok (.iload 4, 2) := by decide +kernel
theorem d22_174 : decode prog_7_method_5_code 174 = .ok (.invokevirtual 72, 3) := by decide +kernel
theorem d22_177 : decode prog_7_method_5_code 177 = .ok (.ifCond .eq 7, 3) := by decide +kernel
theorem d22_180 : decode prog_7_method_5_code 180 = .ok (.iconst 1, 1) := by decide +kernel
theorem d22_181 : decode prog_7_method_5_code 181 = .ok (.goto 4, 3) := by decide +kernel
theorem d22_184 : decode prog_7_method_5_code 184 = .ok (.iconst 0, 1) := by decide +kernel
theorem d22_185 : decode prog_7_method_5_code 185 = .ok (.ireturn, 1) := by decide +kernel
theorem d22_186 : decode prog_7_method_5_code 186 = .ok (.aload_n 0, 1) := by decide +kernel
theorem d22_187 : decode prog_7_method_5_code 187 = .ok (.iload_n 2, 1) := by decide +kernel
theorem d22_188 : decode prog_7_method_5_code 188 = .ok (.invokevirtual 64, 3) := by decide +kernel
theorem d22_191 : decode prog_7_method_5_code 191 = .ok (.ireturn, 1) := by decide +kernel
theorem d22_192 : decode prog_7_method_5_code 192 = .ok (.aload_n 0, 1) := by decide +kernel
theorem d22_193 : decode prog_7_method_5_code 193 = .ok (.iload_n 2, 1) := by decide +kernel
theorem d22_194 : decode prog_7_method_5_code 194 = .ok (.invokevirtual 64, 3) := by decide +kernel
theorem d22_197 : decode prog_7_method_5_code 197 = .ok (.ifCond .eq 15, 3) := by decide +kernel
theorem d22_200 : decode prog_7_method_5_code 200 = .ok (.aload_n 0, 1) := by decide +kernel
theorem d22_201 : decode prog_7_method_5_code 201 = .ok (.iload_n 3, 1) := by decide +kernel
theorem d22_202 : decode prog_7_method_5_code 202 = .ok (.invokevirtual 64, 3) := by decide +kernel
theorem d22_205 : decode prog_7_method_5_code 205 = .ok (.ifCond .eq 7, 3) := by decide +kernel
theorem d22_208 : decode prog_7_method_5_code 208 = .ok (.iconst 1, 1) := by decide +kernel
theorem d22_209 : decode prog_7_method_5_code 209 = .ok (.goto 4, 3) := by decide +kernel
theorem d22_212 : decode prog_7_method_5_code 212 = .ok (.iconst 0, 1) := by decide +kernel
theorem d22_213 : decode prog_7_method_5_code 213 = .ok (.ireturn, 1) := by decide +kernel
theorem d23_0 : decode prog_7_method_6_code 0 = .ok (.iload_n 1, 1) := by decide +kernel
theorem d23_1 : decode prog_7_method_6_code 1 = .ok (.iconst (-1), 1) := by decide +kernel
theorem d23_2 : decode prog_7_method_6_code 2 = .ok (.if_icmp .eq 11, 3) := by decide +kernel
theorem d23_5 : decode prog_7_method_6_code 5 = .ok (.aload_n 0, 1) := by decide +kernel
theorem d23_6 : decode prog_7_method_6_code 6 = .ok (.iload_n 1, 1) := by decide +kernel
theorem d23_7 : decode prog_7_method_6_code 7 = .ok (.invokevirtual 64, 3) := by decide +kernel
theorem d23_10 : decode prog_7_method_6_code 10 = .ok (.ifCond .eq 7, 3) := by decide +kernel
theorem d23_13 : decode prog_7_method_6_code 13 = .ok (.iconst 1, 1) := by decide +kernel
theorem d23_14 : decode prog_7_method_6_code 14 = .ok (.goto 4, 3) := by decide +kernel
theorem d23_17 : decode prog_7_method_6_code 17 = .ok (.iconst 0, 1) := by decide +kernel
theorem d23_18 : decode prog_7_method_6_code 18 = .ok (.ireturn, 1) := by decide +kernel
theorem d24_0 : decode prog_7_method_7_code 0 = .ok (.iload_n 1, 1) := by decide +kernel
theorem d24_1 : decode prog_7_method_7_code 1 = .ok (.tableswitch 139 0 16 #[83, 83, 139, 139, 139, 139, 139, 139, 139, 139, 139, 139, 139, 85, 113, 122, 113], 83) := by decide +kernel
theorem tk24_1 : mm_tk 0 16 #[83, 83, 139, 139, 139, 139, 139, 139, 139, 139, 139, 139, 139, 85, 113, 122, 113] := by unfold mm_tk; decide +kernel
theorem d24_84 : decode prog_7_method_7_code 84 = .ok (.iconst 1, 1) := by decide +kernel
theorem d24_85 : decode prog_7_method_7_code 85 = .ok (.ireturn, 1) := by decide +kernel
theorem d24_86 : decode prog_7_method_7_code 86 = .ok (.iconst 1, 1) := by decide +kernel
theorem d24_87 : decode prog_7_method_7_code 87 = .ok (.aload_n 0, 1) := by decide +kernel
theorem d24_88 : decode prog_7_method_7_code 88 = .ok (.getfield 24, 3) := by decide +kernel
theorem d24_91 : decode prog_7_method_7_code 91 = .ok (.iload_n 2, 1) := by decide +kernel
theorem d24_92 : decode prog_7_method_7_code 92 = .ok (.iaload, 1) := by decide +kernel
theorem d24_93 : decode prog_7_method_7_code 93 = .ok (.aload_n 0, 1) := by decide +kernel
theorem d24_94 : decode prog_7_method_7_code 94 = .ok (.getfield 24, 3) := by decide +kernel
theorem d24_97 : decode prog_7_method_7_code 97 = .ok (.iload_n 3, 1) := by decide +kernel
theorem d24_98 : decode prog_7_method_7_code 98 = .ok (.iaload, 1) := by decide +kernel
theorem d24_99 : decode prog_7_method_7_code 99 = .ok (.aload_n 0, 1) := by decide +kernel
theorem d24_100 : decode prog_7_method_7_code 100 = .ok (.getfield 24, 3) := by decide +kernel
theorem d24_103 : decode prog_7_method_7_code 103 = .ok (.iload 4, 2) := by decide +kernel
theorem d24_105 : decode prog_7_method_7_code 105 = .ok (.iaload, 1) := by decide +kernel
theorem d24_106 : decode prog_7_method_7_code 106 = .ok (.invokestatic 75, 3) := by decide +kernel
theorem d24_109 : decode prog_7_method_7_code 109 = .ok (.invokestatic 75, 3) := by decide +kernel
theorem d24_112 : decode prog_7_method_7_code 112 = .ok (.iadd, 1) := by decide +kernel
theorem d24_113 : decode prog_7_method_7_code 113 = .ok (.ireturn, 1) := by decide +kernel
theorem d24_114 : decode prog_7_method_7_code 114 = .ok (.iconst 1, 1) := by decide +kernel
theorem d24_115 : decode prog_7_method_7_code 115 = .ok (.aload_n 0, 1) := by decide +kernel
theorem d24_116 : decode prog_7_method_7_code 116 = .ok (.getfield 24, 3) := by decide +kernel
theorem d24_119 : decode prog_7_method_7_code 119 = .ok (.iload_n 2, 1) := by decide +kernel
theorem d24_120 : decode prog_7_method_7_code 120 = .ok (.iaload, 1) := by decide +kernel
theorem d24_121 : decode prog_7_method_7_code 121 = .ok (.iadd, 1) := by decide +kernel
theorem d24_122 : decode prog_7_method_7_code 122 = .ok (.ireturn, 1) := by decide +kernel
theorem d24_123 : decode prog_7_method_7_code 123 = .ok (.iconst 1, 1) := by decide +kernel
theorem d24_124 : decode prog_7_method_7_code 124 = .ok (.aload_n 0, 1) := by decide +kernel
theorem d24_125 : decode prog_7_method_7_code 125 = .ok (.iload_n 3, 1) := by decide +kernel
theorem d24_126 : decode prog_7_method_7_code 126 = .ok (.invokevirtual 81, 3) := by decide +kernel
theorem d24_129 : decode prog_7_method_7_code 129 = .ok (.aload_n 0, 1) := by decide +kernel
theorem d24_130 : decode prog_7_method_7_code 130 = .ok (.iload 4, 2) := by decide +kernel
theorem d24_132 : decode prog_7_method_7_code 132 = .ok (.invokevirtual 81, 3) := by decide +kernel
theorem d24_135 : decode prog_7_method_7_code 135 = .ok (.invokestatic 75, 3) := by decide +kernel
theorem d24_138 : decode prog_7_method_7_code 138 = .ok (.iadd, 1) := by decide +kernel
theorem d24_139 : decode prog_7_method_7_code 139 = .ok (.ireturn, 1) := by decide +kernel
theorem d24_140 : decode prog_7_method_7_code 140 = .ok (.iconst 1, 1) := by decide +kernel
theorem d24_141 : decode prog_7_method_7_code 141 = .ok (.aload_n 0, 1) := by decide +kernel
theorem d24_142 : decode prog_7_method_7_code 142 = .ok (.getfield 24, 3) := by decide +kernel
theorem d24_145 : decode prog_7_method_7_code 145 = .ok (.iload_n 2, 1) := by decide +kernel
theorem d24_146 : decode prog_7_method_7_code 146 = .ok (.iaload, 1) := by decide +kernel
theorem d24_147 : decode prog_7_method_7_code 147 = .ok (.aload_n 0, 1) := by decide +kernel
theorem d24_148 : decode prog_7_method_7_code 148 = .ok (.getfield 24, 3) := by decide +kernel
theorem d24_151 : decode prog_7_method_7_code 151 = .ok (.iload_n 3, 1) := by decide +kernel
theorem d24_152 : decode prog_7_method_7_code 152 = .ok (.iaload, 1) := by decide +kernel
theorem d24_153 : decode prog_7_method_7_code 153 = .ok (.invokestatic 75, 3) := by decide +kernel
theorem d24_156 : decode prog_7_method_7_code 156 = .ok (.iadd, 1) := by decide +kernel
theorem d24_157 : decode prog_7_method_7_code 157 = .ok (.ireturn, 1) := by decide +kernel

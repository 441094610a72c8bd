/-! methods and calls -/
def mm_idP (id : Nat) : Prop := plainName (mm_y id).cls = true ∧ mm_own (mm_mo id) = (mm_y id).cls ∧ (mm_ic id = true → (mm_y id).name = "<init>") ∧ Cond.code (mm_y id) (mm_cc id) (mm_ml id) (mm_rt id) ∈ mm_T ∧ Cond.initialized (mm_y id).cls ∈ mm_T ∧ ((mm_y id).cls ≠ "java/lang/invoke/MethodHandle" ∧ (mm_y id).cls ≠ "java/lang/invoke/VarHandle")
theorem idp_0 : mm_idP 0 := ⟨by decide +kernel, by decide +kernel, by decide +kernel, (mm_mem 15 (by decide +kernel) (by decide +kernel)), (mm_mem 1 (by decide +kernel) (by decide +kernel)), by decide +kernel⟩
theorem idp_1 : mm_idP 1 := ⟨by decide +kernel, by decide +kernel, by decide +kernel, (mm_mem 23 (by decide +kernel) (by decide +kernel)), (mm_mem 2 (by decide +kernel) (by decide +kernel)), by decide +kernel⟩
theorem idp_2 : mm_idP 2 := ⟨by decide +kernel, by decide +kernel, by decide +kernel, (mm_mem 85 (by decide +kernel) (by decide +kernel)), (mm_mem 3 (by decide +kernel) (by decide +kernel)), by decide +kernel⟩
theorem idp_3 : mm_idP 3 := ⟨by decide +kernel, by decide +kernel, by decide +kernel, (mm_mem 92 (by decide +kernel) (by decide +kernel)), (mm_mem 4 (by decide +kernel) (by decide +kernel)), by decide +kernel⟩
theorem idp_4 : mm_idP 4 := ⟨by decide +kernel, by decide +kernel, by decide +kernel, (mm_mem 163 (by decide +kernel) (by decide +kernel)), (mm_mem 5 (by decide +kernel) (by decide +kernel)), by decide +kernel⟩
theorem idp_5 : mm_idP 5 := ⟨by decide +kernel, by decide +kernel, by decide +kernel, (mm_mem 499 (by decide +kernel) (by decide +kernel)), (mm_mem 6 (by decide +kernel) (by decide +kernel)), by decide +kernel⟩
theorem idp_6 : mm_idP 6 := ⟨by decide +kernel, by decide +kernel, by decide +kernel, (mm_mem 15 (by decide +kernel) (by decide +kernel)), (mm_mem 1 (by decide +kernel) (by decide +kernel)), by decide +kernel⟩
theorem idp_7 : mm_idP 7 := ⟨by decide +kernel, by decide +kernel, by decide +kernel, (mm_mem 15 (by decide +kernel) (by decide +kernel)), (mm_mem 1 (by decide +kernel) (by decide +kernel)), by decide +kernel⟩
theorem idp_8 : mm_idP 8 := ⟨by decide +kernel, by decide +kernel, by decide +kernel, (mm_mem 192 (by decide +kernel) (by decide +kernel)), (mm_mem 1 (by decide +kernel) (by decide +kernel)), by decide +kernel⟩
theorem idp_9 : mm_idP 9 := ⟨by decide +kernel, by decide +kernel, by decide +kernel, (mm_mem 235 (by decide +kernel) (by decide +kernel)), (mm_mem 1 (by decide +kernel) (by decide +kernel)), by decide +kernel⟩
theorem idp_10 : mm_idP 10 := ⟨by decide +kernel, by decide +kernel, by decide +kernel, (mm_mem 251 (by decide +kernel) (by decide +kernel)), (mm_mem 1 (by decide +kernel) (by decide +kernel)), by decide +kernel⟩
theorem idp_11 : mm_idP 11 := ⟨by decide +kernel, by decide +kernel, by decide +kernel, (mm_mem 413 (by decide +kernel) (by decide +kernel)), (mm_mem 1 (by decide +kernel) (by decide +kernel)), by decide +kernel⟩
theorem idp_12 : mm_idP 12 := ⟨by decide +kernel, by decide +kernel, by decide +kernel, (mm_mem 417 (by decide +kernel) (by decide +kernel)), (mm_mem 1 (by decide +kernel) (by decide +kernel)), by decide +kernel⟩
theorem idp_13 : mm_idP 13 := ⟨by decide +kernel, by decide +kernel, by decide +kernel, (mm_mem 425 (by decide +kernel) (by decide +kernel)), (mm_mem 1 (by decide +kernel) (by decide +kernel)), by decide +kernel⟩
theorem idp_14 : mm_idP 14 := ⟨by decide +kernel, by decide +kernel, by decide +kernel, (mm_mem 430 (by decide +kernel) (by decide +kernel)), (mm_mem 1 (by decide +kernel) (by decide +kernel)), by decide +kernel⟩
theorem idp_15 : mm_idP 15 := ⟨by decide +kernel, by decide +kernel, by decide +kernel, (mm_mem 435 (by decide +kernel) (by decide +kernel)), (mm_mem 1 (by decide +kernel) (by decide +kernel)), by decide +kernel⟩
theorem idp_16 : mm_idP 16 := ⟨by decide +kernel, by decide +kernel, by decide +kernel, (mm_mem 439 (by decide +kernel) (by decide +kernel)), (mm_mem 1 (by decide +kernel) (by decide +kernel)), by decide +kernel⟩
theorem idp_17 : mm_idP 17 := ⟨by decide +kernel, by decide +kernel, by decide +kernel, (mm_mem 451 (by decide +kernel) (by decide +kernel)), (mm_mem 1 (by decide +kernel) (by decide +kernel)), by decide +kernel⟩
theorem idp_18 : mm_idP 18 := ⟨by decide +kernel, by decide +kernel, by decide +kernel, (mm_mem 494 (by decide +kernel) (by decide +kernel)), (mm_mem 1 (by decide +kernel) (by decide +kernel)), by decide +kernel⟩
theorem idp_19 : mm_idP 19 := ⟨by decide +kernel, by decide +kernel, by decide +kernel, (mm_mem 207 (by decide +kernel) (by decide +kernel)), (mm_mem 2 (by decide +kernel) (by decide +kernel)), by decide +kernel⟩
theorem idp_20 : mm_idP 20 := ⟨by decide +kernel, by decide +kernel, by decide +kernel, (mm_mem 255 (by decide +kernel) (by decide +kernel)), (mm_mem 2 (by decide +kernel) (by decide +kernel)), by decide +kernel⟩
theorem idp_21 : mm_idP 21 := ⟨by decide +kernel, by decide +kernel, by decide +kernel, (mm_mem 196 (by decide +kernel) (by decide +kernel)), (mm_mem 2 (by decide +kernel) (by decide +kernel)), by decide +kernel⟩
theorem idp_22 : mm_idP 22 := ⟨by decide +kernel, by decide +kernel, by decide +kernel, (mm_mem 203 (by decide +kernel) (by decide +kernel)), (mm_mem 2 (by decide +kernel) (by decide +kernel)), by decide +kernel⟩
theorem idp_23 : mm_idP 23 := ⟨by decide +kernel, by decide +kernel, by decide +kernel, (mm_mem 220 (by decide +kernel) (by decide +kernel)), (mm_mem 2 (by decide +kernel) (by decide +kernel)), by decide +kernel⟩
theorem idp_24 : mm_idP 24 := ⟨by decide +kernel, by decide +kernel, by decide +kernel, (mm_mem 224 (by decide +kernel) (by decide +kernel)), (mm_mem 2 (by decide +kernel) (by decide +kernel)), by decide +kernel⟩
theorem idp_25 : mm_idP 25 := ⟨by decide +kernel, by decide +kernel, by decide +kernel, (mm_mem 231 (by decide +kernel) (by decide +kernel)), (mm_mem 2 (by decide +kernel) (by decide +kernel)), by decide +kernel⟩
theorem idp_26 : mm_idP 26 := ⟨by decide +kernel, by decide +kernel, by decide +kernel, (mm_mem 239 (by decide +kernel) (by decide +kernel)), (mm_mem 2 (by decide +kernel) (by decide +kernel)), by decide +kernel⟩
theorem idp_27 : mm_idP 27 := ⟨by decide +kernel, by decide +kernel, by decide +kernel, (mm_mem 443 (by decide +kernel) (by decide +kernel)), (mm_mem 2 (by decide +kernel) (by decide +kernel)), by decide +kernel⟩
theorem idp_28 : mm_idP 28 := ⟨by decide +kernel, by decide +kernel, by decide +kernel, (mm_mem 421 (by decide +kernel) (by decide +kernel)), (mm_mem 3 (by decide +kernel) (by decide +kernel)), by decide +kernel⟩
theorem idp_29 : mm_idP 29 := ⟨by decide +kernel, by decide +kernel, by decide +kernel, (mm_mem 259 (by decide +kernel) (by decide +kernel)), (mm_mem 3 (by decide +kernel) (by decide +kernel)), by decide +kernel⟩
theorem idp_30 : mm_idP 30 := ⟨by decide +kernel, by decide +kernel, by decide +kernel, (mm_mem 285 (by decide +kernel) (by decide +kernel)), (mm_mem 3 (by decide +kernel) (by decide +kernel)), by decide +kernel⟩
theorem idp_31 : mm_idP 31 := ⟨by decide +kernel, by decide +kernel, by decide +kernel, (mm_mem 263 (by decide +kernel) (by decide +kernel)), (mm_mem 3 (by decide +kernel) (by decide +kernel)), by decide +kernel⟩
theorem idp_32 : mm_idP 32 := ⟨by decide +kernel, by decide +kernel, by decide +kernel, (mm_mem 321 (by decide +kernel) (by decide +kernel)), (mm_mem 3 (by decide +kernel) (by decide +kernel)), by decide +kernel⟩
theorem idp_33 : mm_idP 33 := ⟨by decide +kernel, by decide +kernel, by decide +kernel, (mm_mem 289 (by decide +kernel) (by decide +kernel)), (mm_mem 3 (by decide +kernel) (by decide +kernel)), by decide +kernel⟩
theorem idp_34 : mm_idP 34 := ⟨by decide +kernel, by decide +kernel, by decide +kernel, (mm_mem 301 (by decide +kernel) (by decide +kernel)), (mm_mem 3 (by decide +kernel) (by decide +kernel)), by decide +kernel⟩
theorem idp_35 : mm_idP 35 := ⟨by decide +kernel, by decide +kernel, by decide +kernel, (mm_mem 374 (by decide +kernel) (by decide +kernel)), (mm_mem 3 (by decide +kernel) (by decide +kernel)), by decide +kernel⟩
theorem idp_36 : mm_idP 36 := ⟨by decide +kernel, by decide +kernel, by decide +kernel, (mm_mem 317 (by decide +kernel) (by decide +kernel)), (mm_mem 3 (by decide +kernel) (by decide +kernel)), by decide +kernel⟩
theorem idp_37 : mm_idP 37 := ⟨by decide +kernel, by decide +kernel, by decide +kernel, (mm_mem 337 (by decide +kernel) (by decide +kernel)), (mm_mem 3 (by decide +kernel) (by decide +kernel)), by decide +kernel⟩
theorem idp_38 : mm_idP 38 := ⟨by decide +kernel, by decide +kernel, by decide +kernel, (mm_mem 309 (by decide +kernel) (by decide +kernel)), (mm_mem 3 (by decide +kernel) (by decide +kernel)), by decide +kernel⟩
theorem idp_39 : mm_idP 39 := ⟨by decide +kernel, by decide +kernel, by decide +kernel, (mm_mem 341 (by decide +kernel) (by decide +kernel)), (mm_mem 3 (by decide +kernel) (by decide +kernel)), by decide +kernel⟩
theorem idp_40 : mm_idP 40 := ⟨by decide +kernel, by decide +kernel, by decide +kernel, (mm_mem 346 (by decide +kernel) (by decide +kernel)), (mm_mem 3 (by decide +kernel) (by decide +kernel)), by decide +kernel⟩
theorem idp_41 : mm_idP 41 := ⟨by decide +kernel, by decide +kernel, by decide +kernel, (mm_mem 351 (by decide +kernel) (by decide +kernel)), (mm_mem 3 (by decide +kernel) (by decide +kernel)), by decide +kernel⟩
theorem idp_42 : mm_idP 42 := ⟨by decide +kernel, by decide +kernel, by decide +kernel, (mm_mem 355 (by decide +kernel) (by decide +kernel)), (mm_mem 3 (by decide +kernel) (by decide +kernel)), by decide +kernel⟩
theorem idp_43 : mm_idP 43 := ⟨by decide +kernel, by decide +kernel, by decide +kernel, (mm_mem 359 (by decide +kernel) (by decide +kernel)), (mm_mem 3 (by decide +kernel) (by decide +kernel)), by decide +kernel⟩
theorem idp_44 : mm_idP 44 := ⟨by decide +kernel, by decide +kernel, by decide +kernel, (mm_mem 363 (by decide +kernel) (by decide +kernel)), (mm_mem 3 (by decide +kernel) (by decide +kernel)), by decide +kernel⟩
theorem idp_45 : mm_idP 45 := ⟨by decide +kernel, by decide +kernel, by decide +kernel, (mm_mem 367 (by decide +kernel) (by decide +kernel)), (mm_mem 3 (by decide +kernel) (by decide +kernel)), by decide +kernel⟩
theorem idp_46 : mm_idP 46 := ⟨by decide +kernel, by decide +kernel, by decide +kernel, (mm_mem 275 (by decide +kernel) (by decide +kernel)), (mm_mem 4 (by decide +kernel) (by decide +kernel)), by decide +kernel⟩
theorem idp_47 : mm_idP 47 := ⟨by decide +kernel, by decide +kernel, by decide +kernel, (mm_mem 279 (by decide +kernel) (by decide +kernel)), (mm_mem 4 (by decide +kernel) (by decide +kernel)), by decide +kernel⟩
theorem idp_48 : mm_idP 48 := ⟨by decide +kernel, by decide +kernel, by decide +kernel, (mm_mem 267 (by decide +kernel) (by decide +kernel)), (mm_mem 4 (by decide +kernel) (by decide +kernel)), by decide +kernel⟩
theorem idp_49 : mm_idP 49 := ⟨by decide +kernel, by decide +kernel, by decide +kernel, (mm_mem 271 (by decide +kernel) (by decide +kernel)), (mm_mem 4 (by decide +kernel) (by decide +kernel)), by decide +kernel⟩
theorem idp_50 : mm_idP 50 := ⟨by decide +kernel, by decide +kernel, by decide +kernel, (mm_mem 459 (by decide +kernel) (by decide +kernel)), (mm_mem 4 (by decide +kernel) (by decide +kernel)), by decide +kernel⟩
theorem idp_51 : mm_idP 51 := ⟨by decide +kernel, by decide +kernel, by decide +kernel, (mm_mem 455 (by decide +kernel) (by decide +kernel)), (mm_mem 4 (by decide +kernel) (by decide +kernel)), by decide +kernel⟩
theorem idp_52 : mm_idP 52 := ⟨by decide +kernel, by decide +kernel, by decide +kernel, (mm_mem 293 (by decide +kernel) (by decide +kernel)), (mm_mem 4 (by decide +kernel) (by decide +kernel)), by decide +kernel⟩
theorem idp_53 : mm_idP 53 := ⟨by decide +kernel, by decide +kernel, by decide +kernel, (mm_mem 305 (by decide +kernel) (by decide +kernel)), (mm_mem 4 (by decide +kernel) (by decide +kernel)), by decide +kernel⟩
theorem idp_54 : mm_idP 54 := ⟨by decide +kernel, by decide +kernel, by decide +kernel, (mm_mem 297 (by decide +kernel) (by decide +kernel)), (mm_mem 4 (by decide +kernel) (by decide +kernel)), by decide +kernel⟩
theorem idp_55 : mm_idP 55 := ⟨by decide +kernel, by decide +kernel, by decide +kernel, (mm_mem 313 (by decide +kernel) (by decide +kernel)), (mm_mem 4 (by decide +kernel) (by decide +kernel)), by decide +kernel⟩
theorem idp_56 : mm_idP 56 := ⟨by decide +kernel, by decide +kernel, by decide +kernel, (mm_mem 464 (by decide +kernel) (by decide +kernel)), (mm_mem 5 (by decide +kernel) (by decide +kernel)), by decide +kernel⟩
theorem idp_57 : mm_idP 57 := ⟨by decide +kernel, by decide +kernel, by decide +kernel, (mm_mem 468 (by decide +kernel) (by decide +kernel)), (mm_mem 5 (by decide +kernel) (by decide +kernel)), by decide +kernel⟩
theorem idp_58 : mm_idP 58 := ⟨by decide +kernel, by decide +kernel, by decide +kernel, (mm_mem 489 (by decide +kernel) (by decide +kernel)), (mm_mem 5 (by decide +kernel) (by decide +kernel)), by decide +kernel⟩
theorem idp_59 : mm_idP 59 := ⟨by decide +kernel, by decide +kernel, by decide +kernel, (mm_mem 473 (by decide +kernel) (by decide +kernel)), (mm_mem 5 (by decide +kernel) (by decide +kernel)), by decide +kernel⟩
theorem idp_60 : mm_idP 60 := ⟨by decide +kernel, by decide +kernel, by decide +kernel, (mm_mem 478 (by decide +kernel) (by decide +kernel)), (mm_mem 5 (by decide +kernel) (by decide +kernel)), by decide +kernel⟩
theorem idp_61 : mm_idP 61 := ⟨by decide +kernel, by decide +kernel, by decide +kernel, (mm_mem 483 (by decide +kernel) (by decide +kernel)), (mm_mem 5 (by decide +kernel) (by decide +kernel)), by decide +kernel⟩
theorem idp_62 : mm_idP 62 := ⟨by decide +kernel, by decide +kernel, by decide +kernel, (mm_mem 628 (by decide +kernel) (by decide +kernel)), (mm_mem 6 (by decide +kernel) (by decide +kernel)), by decide +kernel⟩
theorem idp_63 : mm_idP 63 := ⟨by decide +kernel, by decide +kernel, by decide +kernel, (mm_mem 624 (by decide +kernel) (by decide +kernel)), (mm_mem 6 (by decide +kernel) (by decide +kernel)), by decide +kernel⟩
theorem idp_64 : mm_idP 64 := ⟨by decide +kernel, by decide +kernel, by decide +kernel, (mm_mem 644 (by decide +kernel) (by decide +kernel)), (mm_mem 6 (by decide +kernel) (by decide +kernel)), by decide +kernel⟩
theorem idp_65 : mm_idP 65 := ⟨by decide +kernel, by decide +kernel, by decide +kernel, (mm_mem 620 (by decide +kernel) (by decide +kernel)), (mm_mem 6 (by decide +kernel) (by decide +kernel)), by decide +kernel⟩
theorem idp_66 : mm_idP 66 := ⟨by decide +kernel, by decide +kernel, by decide +kernel, (mm_mem 636 (by decide +kernel) (by decide +kernel)), (mm_mem 6 (by decide +kernel) (by decide +kernel)), by decide +kernel⟩
theorem idp_67 : mm_idP 67 := ⟨by decide +kernel, by decide +kernel, by decide +kernel, (mm_mem 632 (by decide +kernel) (by decide +kernel)), (mm_mem 6 (by decide +kernel) (by decide +kernel)), by decide +kernel⟩
theorem idp_68 : mm_idP 68 := ⟨by decide +kernel, by decide +kernel, by decide +kernel, (mm_mem 616 (by decide +kernel) (by decide +kernel)), (mm_mem 6 (by decide +kernel) (by decide +kernel)), by decide +kernel⟩
theorem idp_69 : mm_idP 69 := ⟨by decide +kernel, by decide +kernel, by decide +kernel, (mm_mem 640 (by decide +kernel) (by decide +kernel)), (mm_mem 6 (by decide +kernel) (by decide +kernel)), by decide +kernel⟩
theorem idp_70 : mm_idP 70 := ⟨by decide +kernel, by decide +kernel, by decide +kernel, (mm_mem 664 (by decide +kernel) (by decide +kernel)), (mm_mem 6 (by decide +kernel) (by decide +kernel)), by decide +kernel⟩
theorem idp_71 : mm_idP 71 := ⟨by decide +kernel, by decide +kernel, by decide +kernel, (mm_mem 701 (by decide +kernel) (by decide +kernel)), (mm_mem 6 (by decide +kernel) (by decide +kernel)), by decide +kernel⟩
theorem idp_72 : mm_idP 72 := ⟨by decide +kernel, by decide +kernel, by decide +kernel, (mm_mem 709 (by decide +kernel) (by decide +kernel)), (mm_mem 6 (by decide +kernel) (by decide +kernel)), by decide +kernel⟩
theorem idp_73 : mm_idP 73 := ⟨by decide +kernel, by decide +kernel, by decide +kernel, (mm_mem 714 (by decide +kernel) (by decide +kernel)), (mm_mem 6 (by decide +kernel) (by decide +kernel)), by decide +kernel⟩
theorem idp_74 : mm_idP 74 := ⟨by decide +kernel, by decide +kernel, by decide +kernel, (mm_mem 705 (by decide +kernel) (by decide +kernel)), (mm_mem 6 (by decide +kernel) (by decide +kernel)), by decide +kernel⟩
theorem idp_75 : mm_idP 75 := ⟨by decide +kernel, by decide +kernel, by decide +kernel, (mm_mem 660 (by decide +kernel) (by decide +kernel)), (mm_mem 6 (by decide +kernel) (by decide +kernel)), by decide +kernel⟩
theorem idp_76 : mm_idP 76 := ⟨by decide +kernel, by decide +kernel, by decide +kernel, (mm_mem 689 (by decide +kernel) (by decide +kernel)), (mm_mem 6 (by decide +kernel) (by decide +kernel)), by decide +kernel⟩
theorem idp_77 : mm_idP 77 := ⟨by decide +kernel, by decide +kernel, by decide +kernel, (mm_mem 677 (by decide +kernel) (by decide +kernel)), (mm_mem 6 (by decide +kernel) (by decide +kernel)), by decide +kernel⟩
theorem idp_78 : mm_idP 78 := ⟨by decide +kernel, by decide +kernel, by decide +kernel, (mm_mem 673 (by decide +kernel) (by decide +kernel)), (mm_mem 6 (by decide +kernel) (by decide +kernel)), by decide +kernel⟩
theorem idp_79 : mm_idP 79 := ⟨by decide +kernel, by decide +kernel, by decide +kernel, (mm_mem 685 (by decide +kernel) (by decide +kernel)), (mm_mem 6 (by decide +kernel) (by decide +kernel)), by decide +kernel⟩
theorem idp_80 : mm_idP 80 := ⟨by decide +kernel, by decide +kernel, by decide +kernel, (mm_mem 697 (by decide +kernel) (by decide +kernel)), (mm_mem 6 (by decide +kernel) (by decide +kernel)), by decide +kernel⟩
theorem idp_81 : mm_idP 81 := ⟨by decide +kernel, by decide +kernel, by decide +kernel, (mm_mem 719 (by decide +kernel) (by decide +kernel)), (mm_mem 6 (by decide +kernel) (by decide +kernel)), by decide +kernel⟩
theorem idp_82 : mm_idP 82 := ⟨by decide +kernel, by decide +kernel, by decide +kernel, (mm_mem 693 (by decide +kernel) (by decide +kernel)), (mm_mem 6 (by decide +kernel) (by decide +kernel)), by decide +kernel⟩
theorem idp_83 : mm_idP 83 := ⟨by decide +kernel, by decide +kernel, by decide +kernel, (mm_mem 725 (by decide +kernel) (by decide +kernel)), (mm_mem 6 (by decide +kernel) (by decide +kernel)), by decide +kernel⟩
theorem idp_84 : mm_idP 84 := ⟨by decide +kernel, by decide +kernel, by decide +kernel, (mm_mem 729 (by decide +kernel) (by decide +kernel)), (mm_mem 6 (by decide +kernel) (by decide +kernel)), by decide +kernel⟩
theorem idp_85 : mm_idP 85 := ⟨by decide +kernel, by decide +kernel, by decide +kernel, (mm_mem 652 (by decide +kernel) (by decide +kernel)), (mm_mem 6 (by decide +kernel) (by decide +kernel)), by decide +kernel⟩
theorem idp_86 : mm_idP 86 := ⟨by decide +kernel, by decide +kernel, by decide +kernel, (mm_mem 656 (by decide +kernel) (by decide +kernel)), (mm_mem 6 (by decide +kernel) (by decide +kernel)), by decide +kernel⟩
theorem idp_87 : mm_idP 87 := ⟨by decide +kernel, by decide +kernel, by decide +kernel, (mm_mem 737 (by decide +kernel) (by decide +kernel)), (mm_mem 6 (by decide +kernel) (by decide +kernel)), by decide +kernel⟩
theorem idp_88 : mm_idP 88 := ⟨by decide +kernel, by decide +kernel, by decide +kernel, (mm_mem 733 (by decide +kernel) (by decide +kernel)), (mm_mem 6 (by decide +kernel) (by decide +kernel)), by decide +kernel⟩
theorem idp_89 : mm_idP 89 := ⟨by decide +kernel, by decide +kernel, by decide +kernel, (mm_mem 681 (by decide +kernel) (by decide +kernel)), (mm_mem 6 (by decide +kernel) (by decide +kernel)), by decide +kernel⟩
theorem idp_90 : mm_idP 90 := ⟨by decide +kernel, by decide +kernel, by decide +kernel, (mm_mem 669 (by decide +kernel) (by decide +kernel)), (mm_mem 6 (by decide +kernel) (by decide +kernel)), by decide +kernel⟩
theorem idp_91 : mm_idP 91 := ⟨by decide +kernel, by decide +kernel, by decide +kernel, (mm_mem 648 (by decide +kernel) (by decide +kernel)), (mm_mem 6 (by decide +kernel) (by decide +kernel)), by decide +kernel⟩
theorem idp_92 : mm_idP 92 := ⟨by decide +kernel, by decide +kernel, by decide +kernel, (mm_mem 741 (by decide +kernel) (by decide +kernel)), (mm_mem 6 (by decide +kernel) (by decide +kernel)), by decide +kernel⟩
theorem idp_93 : mm_idP 93 := ⟨by decide +kernel, by decide +kernel, by decide +kernel, (mm_mem 754 (by decide +kernel) (by decide +kernel)), (mm_mem 6 (by decide +kernel) (by decide +kernel)), by decide +kernel⟩
theorem idp_94 : mm_idP 94 := ⟨by decide +kernel, by decide +kernel, by decide +kernel, (mm_mem 763 (by decide +kernel) (by decide +kernel)), (mm_mem 6 (by decide +kernel) (by decide +kernel)), by decide +kernel⟩
theorem idp_95 : mm_idP 95 := ⟨by decide +kernel, by decide +kernel, by decide +kernel, (mm_mem 759 (by decide +kernel) (by decide +kernel)), (mm_mem 6 (by decide +kernel) (by decide +kernel)), by decide +kernel⟩
theorem idp_96 : mm_idP 96 := ⟨by decide +kernel, by decide +kernel, by decide +kernel, (mm_mem 767 (by decide +kernel) (by decide +kernel)), (mm_mem 6 (by decide +kernel) (by decide +kernel)), by decide +kernel⟩
theorem idp_97 : mm_idP 97 := ⟨by decide +kernel, by decide +kernel, by decide +kernel, (mm_mem 771 (by decide +kernel) (by decide +kernel)), (mm_mem 6 (by decide +kernel) (by decide +kernel)), by decide +kernel⟩
theorem idp_98 : mm_idP 98 := ⟨by decide +kernel, by decide +kernel, by decide +kernel, (mm_mem 775 (by decide +kernel) (by decide +kernel)), (mm_mem 6 (by decide +kernel) (by decide +kernel)), by decide +kernel⟩
theorem idp_99 : mm_idP 99 := ⟨by decide +kernel, by decide +kernel, by decide +kernel, (mm_mem 749 (by decide +kernel) (by decide +kernel)), (mm_mem 6 (by decide +kernel) (by decide +kernel)), by decide +kernel⟩
theorem idp_100 : mm_idP 100 := ⟨by decide +kernel, by decide +kernel, by decide +kernel, (mm_mem 745 (by decide +kernel) (by decide +kernel)), (mm_mem 6 (by decide +kernel) (by decide +kernel)), by decide +kernel⟩
theorem idp_101 : mm_idP 101 := ⟨by decide +kernel, by decide +kernel, by decide +kernel, (mm_mem 784 (by decide +kernel) (by decide +kernel)), (mm_mem 6 (by decide +kernel) (by decide +kernel)), by decide +kernel⟩
theorem idp_102 : mm_idP 102 := ⟨by decide +kernel, by decide +kernel, by decide +kernel, (mm_mem 780 (by decide +kernel) (by decide +kernel)), (mm_mem 6 (by decide +kernel) (by decide +kernel)), by decide +kernel⟩
theorem idp_103 : mm_idP 103 := ⟨by decide +kernel, by decide +kernel, by decide +kernel, (mm_mem 788 (by decide +kernel) (by decide +kernel)), (mm_mem 6 (by decide +kernel) (by decide +kernel)), by decide +kernel⟩
theorem idp_104 : mm_idP 104 := ⟨by decide +kernel, by decide +kernel, by decide +kernel, (mm_mem 792 (by decide +kernel) (by decide +kernel)), (mm_mem 6 (by decide +kernel) (by decide +kernel)), by decide +kernel⟩
theorem idp_105 : mm_idP 105 := ⟨by decide +kernel, by decide +kernel, by decide +kernel, (mm_mem 796 (by decide +kernel) (by decide +kernel)), (mm_mem 6 (by decide +kernel) (by decide +kernel)), by decide +kernel⟩
theorem idp_106 : mm_idP 106 := ⟨by decide +kernel, by decide +kernel, by decide +kernel, (mm_mem 800 (by decide +kernel) (by decide +kernel)), (mm_mem 6 (by decide +kernel) (by decide +kernel)), by decide +kernel⟩
theorem idp_107 : mm_idP 107 := ⟨by decide +kernel, by decide +kernel, by decide +kernel, (mm_mem 804 (by decide +kernel) (by decide +kernel)), (mm_mem 6 (by decide +kernel) (by decide +kernel)), by decide +kernel⟩
theorem idp_108 : mm_idP 108 := ⟨by decide +kernel, by decide +kernel, by decide +kernel, (mm_mem 199 (by decide +kernel) (by decide +kernel)), (mm_mem 7 (by decide +kernel) (by decide +kernel)), by decide +kernel⟩
theorem idp_109 : mm_idP 109 := ⟨by decide +kernel, by decide +kernel, by decide +kernel, (mm_mem 377 (by decide +kernel) (by decide +kernel)), (mm_mem 7 (by decide +kernel) (by decide +kernel)), by decide +kernel⟩
theorem idp_110 : mm_idP 110 := ⟨by decide +kernel, by decide +kernel, by decide +kernel, (mm_mem 380 (by decide +kernel) (by decide +kernel)), (mm_mem 7 (by decide +kernel) (by decide +kernel)), by decide +kernel⟩
theorem idp_111 : mm_idP 111 := ⟨by decide +kernel, by decide +kernel, by decide +kernel, (mm_mem 446 (by decide +kernel) (by decide +kernel)), (mm_mem 7 (by decide +kernel) (by decide +kernel)), by decide +kernel⟩
theorem idp_112 : mm_idP 112 := ⟨by decide +kernel, by decide +kernel, by decide +kernel, (mm_mem 213 (by decide +kernel) (by decide +kernel)), (mm_mem 8 (by decide +kernel) (by decide +kernel)), by decide +kernel⟩
theorem idp_113 : mm_idP 113 := ⟨by decide +kernel, by decide +kernel, by decide +kernel, (mm_mem 216 (by decide +kernel) (by decide +kernel)), (mm_mem 8 (by decide +kernel) (by decide +kernel)), by decide +kernel⟩
theorem idp_114 : mm_idP 114 := ⟨by decide +kernel, by decide +kernel, by decide +kernel, (mm_mem 210 (by decide +kernel) (by decide +kernel)), (mm_mem 8 (by decide +kernel) (by decide +kernel)), by decide +kernel⟩
theorem idp_115 : mm_idP 115 := ⟨by decide +kernel, by decide +kernel, by decide +kernel, (mm_mem 245 (by decide +kernel) (by decide +kernel)), (mm_mem 8 (by decide +kernel) (by decide +kernel)), by decide +kernel⟩
theorem idp_116 : mm_idP 116 := ⟨by decide +kernel, by decide +kernel, by decide +kernel, (mm_mem 242 (by decide +kernel) (by decide +kernel)), (mm_mem 8 (by decide +kernel) (by decide +kernel)), by decide +kernel⟩
theorem idp_117 : mm_idP 117 := ⟨by decide +kernel, by decide +kernel, by decide +kernel, (mm_mem 328 (by decide +kernel) (by decide +kernel)), (mm_mem 8 (by decide +kernel) (by decide +kernel)), by decide +kernel⟩
theorem idp_118 : mm_idP 118 := ⟨by decide +kernel, by decide +kernel, by decide +kernel, (mm_mem 332 (by decide +kernel) (by decide +kernel)), (mm_mem 8 (by decide +kernel) (by decide +kernel)), by decide +kernel⟩
theorem idp_119 : mm_idP 119 := ⟨by decide +kernel, by decide +kernel, by decide +kernel, (mm_mem 325 (by decide +kernel) (by decide +kernel)), (mm_mem 8 (by decide +kernel) (by decide +kernel)), by decide +kernel⟩
theorem idp_120 : mm_idP 120 := ⟨by decide +kernel, by decide +kernel, by decide +kernel, (mm_mem 407 (by decide +kernel) (by decide +kernel)), (mm_mem 10 (by decide +kernel) (by decide +kernel)), by decide +kernel⟩
theorem idp_121 : mm_idP 121 := ⟨by decide +kernel, by decide +kernel, by decide +kernel, (mm_mem 383 (by decide +kernel) (by decide +kernel)), (mm_mem 10 (by decide +kernel) (by decide +kernel)), by decide +kernel⟩
theorem idp_122 : mm_idP 122 := ⟨by decide +kernel, by decide +kernel, by decide +kernel, (mm_mem 386 (by decide +kernel) (by decide +kernel)), (mm_mem 10 (by decide +kernel) (by decide +kernel)), by decide +kernel⟩
theorem idp_123 : mm_idP 123 := ⟨by decide +kernel, by decide +kernel, by decide +kernel, (mm_mem 392 (by decide +kernel) (by decide +kernel)), (mm_mem 10 (by decide +kernel) (by decide +kernel)), by decide +kernel⟩
theorem idp_124 : mm_idP 124 := ⟨by decide +kernel, by decide +kernel, by decide +kernel, (mm_mem 396 (by decide +kernel) (by decide +kernel)), (mm_mem 10 (by decide +kernel) (by decide +kernel)), by decide +kernel⟩
theorem mm_idp : ∀ id, id < mm_nid → mm_idP id
  | 0, _ => idp_0
  | 1, _ => idp_1
  | 2, _ => idp_2
  | 3, _ => idp_3
  | 4, _ => idp_4
  | 5, _ => idp_5
  | 6, _ => idp_6
  | 7, _ => idp_7
  | 8, _ => idp_8
  | 9, _ => idp_9
  | 10, _ => idp_10
  | 11, _ => idp_11
  | 12, _ => idp_12
  | 13, _ => idp_13
  | 14, _ => idp_14
  | 15, _ => idp_15
  | 16, _ => idp_16
  | 17, _ => idp_17
  | 18, _ => idp_18
  | 19, _ => idp_19
  | 20, _ => idp_20
  | 21, _ => idp_21
  | 22, _ => idp_22
  | 23, _ => idp_23
  | 24, _ => idp_24
  | 25, _ => idp_25
  | 26, _ => idp_26
  | 27, _ => idp_27
  | 28, _ => idp_28
  | 29, _ => idp_29
  | 30, _ => idp_30
  | 31, _ => idp_31
  | 32, _ => idp_32
  | 33, _ => idp_33
  | 34, _ => idp_34
  | 35, _ => idp_35
  | 36, _ => idp_36
  | 37, _ => idp_37
  | 38, _ => idp_38
  | 39, _ => idp_39
  | 40, _ => idp_40
  | 41, _ => idp_41
  | 42, _ => idp_42
  | 43, _ => idp_43
  | 44, _ => idp_44
  | 45, _ => idp_45
  | 46, _ => idp_46
  | 47, _ => idp_47
  | 48, _ => idp_48
  | 49, _ => idp_49
  | 50, _ => idp_50
  | 51, _ => idp_51
  | 52, _ => idp_52
  | 53, _ => idp_53
  | 54, _ => idp_54
  | 55, _ => idp_55
  | 56, _ => idp_56
  | 57, _ => idp_57
  | 58, _ => idp_58
  | 59, _ => idp_59
  | 60, _ => idp_60
  | 61, _ => idp_61
  | 62, _ => idp_62
  | 63, _ => idp_63
  | 64, _ => idp_64
  | 65, _ => idp_65
  | 66, _ => idp_66
  | 67, _ => idp_67
  | 68, _ => idp_68
  | 69, _ => idp_69
  | 70, _ => idp_70
  | 71, _ => idp_71
  | 72, _ => idp_72
  | 73, _ => idp_73
  | 74, _ => idp_74
  | 75, _ => idp_75
  | 76, _ => idp_76
  | 77, _ => idp_77
  | 78, _ => idp_78
  | 79, _ => idp_79
  | 80, _ => idp_80
  | 81, _ => idp_81
  | 82, _ => idp_82
  | 83, _ => idp_83
  | 84, _ => idp_84
  | 85, _ => idp_85
  | 86, _ => idp_86
  | 87, _ => idp_87
  | 88, _ => idp_88
  | 89, _ => idp_89
  | 90, _ => idp_90
  | 91, _ => idp_91
  | 92, _ => idp_92
  | 93, _ => idp_93
  | 94, _ => idp_94
  | 95, _ => idp_95
  | 96, _ => idp_96
  | 97, _ => idp_97
  | 98, _ => idp_98
  | 99, _ => idp_99
  | 100, _ => idp_100
  | 101, _ => idp_101
  | 102, _ => idp_102
  | 103, _ => idp_103
  | 104, _ => idp_104
  | 105, _ => idp_105
  | 106, _ => idp_106
  | 107, _ => idp_107
  | 108, _ => idp_108
  | 109, _ => idp_109
  | 110, _ => idp_110
  | 111, _ => idp_111
  | 112, _ => idp_112
  | 113, _ => idp_113
  | 114, _ => idp_114
  | 115, _ => idp_115
  | 116, _ => idp_116
  | 117, _ => idp_117
  | 118, _ => idp_118
  | 119, _ => idp_119
  | 120, _ => idp_120
  | 121, _ => idp_121
  | 122, _ => idp_122
  | 123, _ => idp_123
  | 124, _ => idp_124
  | k + 125, h => absurd h (by unfold mm_nid; omega)
theorem mm_idok {id : Nat} (h : id < mm_nid) : plainName (mm_y id).cls = true ∧ mm_own (mm_mo id) = (mm_y id).cls ∧ (mm_ic id = true → (mm_y id).name = "<init>") := ⟨(mm_idp id h).1, (mm_idp id h).2.1, (mm_idp id h).2.2.1⟩
def mm_MTp (q : Nat × Nat × Nat × Nat × Nat) : Prop := q.2.2.1 < mm_nid ∧ (q.2.2.2.2 ≠ 3 → (parseMethodDescriptor (mm_y q.2.2.1).desc).map (fun d => d.parameters.length) = some q.2.2.2.1 ∧ (Cond.methodLink (mm_own q.1) q.2.1 (mm_y q.2.2.1) ∈ mm_T ∨ ∃ ho, (mm_own q.1, q.2.1, mm_y q.2.2.1, ho) ∈ mm_nM)) ∧ (q.2.2.2.2 = 0 → Cond.static (mm_y q.2.2.1) ∈ mm_T) ∧ (q.2.2.2.2 = 1 → Cond.instanceMethod (mm_y q.2.2.1) ∈ mm_T ∧ Cond.selects (mm_nm (mm_mk q.2.2.1)) (mm_y q.2.2.1) (mm_y q.2.2.1) ∈ mm_T) ∧ (q.2.2.2.2 = 2 → (mm_y q.2.2.1).name = "<init>" ∧ Cond.instanceMethod (mm_y q.2.2.1) ∈ mm_T ∧ mm_rt q.2.2.1 = none) ∧ (q.2.2.2.2 = 3 → Cond.methodLink (mm_own q.1) q.2.1 Lib.objectInit ∈ mm_T)
theorem mi_1 : Cond.instanceMethod (mm_y 1) ∈ mm_T := (mm_mem 22 (by decide +kernel) (by decide +kernel))
theorem mi_2 : Cond.instanceMethod (mm_y 2) ∈ mm_T := (mm_mem 84 (by decide +kernel) (by decide +kernel))
theorem mi_4 : Cond.instanceMethod (mm_y 4) ∈ mm_T := (mm_mem 162 (by decide +kernel) (by decide +kernel))
theorem mi_3 : Cond.instanceMethod (mm_y 3) ∈ mm_T := (mm_mem 91 (by decide +kernel) (by decide +kernel))
theorem mi_21 : Cond.instanceMethod (mm_y 21) ∈ mm_T := (mm_mem 195 (by decide +kernel) (by decide +kernel))
theorem me_21 : Cond.selects (mm_nm (mm_mk 21)) (mm_y 21) (mm_y 21) ∈ mm_T := mm_memS (List.mem_of_getElem? (i := 0) (by decide +kernel)) (by decide +kernel)
theorem mi_26 : Cond.instanceMethod (mm_y 26) ∈ mm_T := (mm_mem 238 (by decide +kernel) (by decide +kernel))
theorem me_26 : Cond.selects (mm_nm (mm_mk 26)) (mm_y 26) (mm_y 26) ∈ mm_T := mm_memS (List.mem_of_getElem? (i := 6) (by decide +kernel)) (by decide +kernel)
theorem mi_20 : Cond.instanceMethod (mm_y 20) ∈ mm_T := (mm_mem 254 (by decide +kernel) (by decide +kernel))
theorem me_20 : Cond.selects (mm_nm (mm_mk 20)) (mm_y 20) (mm_y 20) ∈ mm_T := mm_memS (List.mem_of_getElem? (i := 7) (by decide +kernel)) (by decide +kernel)
theorem mi_29 : Cond.instanceMethod (mm_y 29) ∈ mm_T := (mm_mem 258 (by decide +kernel) (by decide +kernel))
theorem me_29 : Cond.selects (mm_nm (mm_mk 29)) (mm_y 29) (mm_y 29) ∈ mm_T := mm_memS (List.mem_of_getElem? (i := 8) (by decide +kernel)) (by decide +kernel)
theorem mi_28 : Cond.instanceMethod (mm_y 28) ∈ mm_T := (mm_mem 420 (by decide +kernel) (by decide +kernel))
theorem me_28 : Cond.selects (mm_nm (mm_mk 28)) (mm_y 28) (mm_y 28) ∈ mm_T := mm_memS (List.mem_of_getElem? (i := 33) (by decide +kernel)) (by decide +kernel)
theorem mi_19 : Cond.instanceMethod (mm_y 19) ∈ mm_T := (mm_mem 206 (by decide +kernel) (by decide +kernel))
theorem me_19 : Cond.selects (mm_nm (mm_mk 19)) (mm_y 19) (mm_y 19) ∈ mm_T := mm_memS (List.mem_of_getElem? (i := 2) (by decide +kernel)) (by decide +kernel)
theorem mi_27 : Cond.instanceMethod (mm_y 27) ∈ mm_T := (mm_mem 442 (by decide +kernel) (by decide +kernel))
theorem me_27 : Cond.selects (mm_nm (mm_mk 27)) (mm_y 27) (mm_y 27) ∈ mm_T := mm_memS (List.mem_of_getElem? (i := 34) (by decide +kernel)) (by decide +kernel)
theorem mi_51 : Cond.instanceMethod (mm_y 51) ∈ mm_T := (mm_mem 454 (by decide +kernel) (by decide +kernel))
theorem me_51 : Cond.selects (mm_nm (mm_mk 51)) (mm_y 51) (mm_y 51) ∈ mm_T := mm_memS (List.mem_of_getElem? (i := 35) (by decide +kernel)) (by decide +kernel)
theorem mi_56 : Cond.instanceMethod (mm_y 56) ∈ mm_T := (mm_mem 463 (by decide +kernel) (by decide +kernel))
theorem me_56 : Cond.selects (mm_nm (mm_mk 56)) (mm_y 56) (mm_y 56) ∈ mm_T := mm_memS (List.mem_of_getElem? (i := 37) (by decide +kernel)) (by decide +kernel)
theorem ms_108 : Cond.static (mm_y 108) ∈ mm_T := (mm_mem 198 (by decide +kernel) (by decide +kernel))
theorem mi_22 : Cond.instanceMethod (mm_y 22) ∈ mm_T := (mm_mem 202 (by decide +kernel) (by decide +kernel))
theorem me_22 : Cond.selects (mm_nm (mm_mk 22)) (mm_y 22) (mm_y 22) ∈ mm_T := mm_memS (List.mem_of_getElem? (i := 1) (by decide +kernel)) (by decide +kernel)
theorem mi_24 : Cond.instanceMethod (mm_y 24) ∈ mm_T := (mm_mem 223 (by decide +kernel) (by decide +kernel))
theorem me_24 : Cond.selects (mm_nm (mm_mk 24)) (mm_y 24) (mm_y 24) ∈ mm_T := mm_memS (List.mem_of_getElem? (i := 4) (by decide +kernel)) (by decide +kernel)
theorem ms_114 : Cond.static (mm_y 114) ∈ mm_T := (mm_mem 209 (by decide +kernel) (by decide +kernel))
theorem mi_23 : Cond.instanceMethod (mm_y 23) ∈ mm_T := (mm_mem 219 (by decide +kernel) (by decide +kernel))
theorem me_23 : Cond.selects (mm_nm (mm_mk 23)) (mm_y 23) (mm_y 23) ∈ mm_T := mm_memS (List.mem_of_getElem? (i := 3) (by decide +kernel)) (by decide +kernel)
theorem mi_25 : Cond.instanceMethod (mm_y 25) ∈ mm_T := (mm_mem 230 (by decide +kernel) (by decide +kernel))
theorem me_25 : Cond.selects (mm_nm (mm_mk 25)) (mm_y 25) (mm_y 25) ∈ mm_T := mm_memS (List.mem_of_getElem? (i := 5) (by decide +kernel)) (by decide +kernel)
theorem ms_116 : Cond.static (mm_y 116) ∈ mm_T := (mm_mem 241 (by decide +kernel) (by decide +kernel))
theorem ms_115 : Cond.static (mm_y 115) ∈ mm_T := (mm_mem 244 (by decide +kernel) (by decide +kernel))
theorem ms_111 : Cond.static (mm_y 111) ∈ mm_T := (mm_mem 445 (by decide +kernel) (by decide +kernel))
theorem mi_52 : Cond.instanceMethod (mm_y 52) ∈ mm_T := (mm_mem 292 (by decide +kernel) (by decide +kernel))
theorem me_52 : Cond.selects (mm_nm (mm_mk 52)) (mm_y 52) (mm_y 52) ∈ mm_T := mm_memS (List.mem_of_getElem? (i := 16) (by decide +kernel)) (by decide +kernel)
theorem mi_31 : Cond.instanceMethod (mm_y 31) ∈ mm_T := (mm_mem 262 (by decide +kernel) (by decide +kernel))
theorem me_31 : Cond.selects (mm_nm (mm_mk 31)) (mm_y 31) (mm_y 31) ∈ mm_T := mm_memS (List.mem_of_getElem? (i := 9) (by decide +kernel)) (by decide +kernel)
theorem mi_30 : Cond.instanceMethod (mm_y 30) ∈ mm_T := (mm_mem 284 (by decide +kernel) (by decide +kernel))
theorem me_30 : Cond.selects (mm_nm (mm_mk 30)) (mm_y 30) (mm_y 30) ∈ mm_T := mm_memS (List.mem_of_getElem? (i := 14) (by decide +kernel)) (by decide +kernel)
theorem mi_33 : Cond.instanceMethod (mm_y 33) ∈ mm_T := (mm_mem 288 (by decide +kernel) (by decide +kernel))
theorem me_33 : Cond.selects (mm_nm (mm_mk 33)) (mm_y 33) (mm_y 33) ∈ mm_T := mm_memS (List.mem_of_getElem? (i := 15) (by decide +kernel)) (by decide +kernel)
theorem mi_32 : Cond.instanceMethod (mm_y 32) ∈ mm_T := (mm_mem 320 (by decide +kernel) (by decide +kernel))
theorem me_32 : Cond.selects (mm_nm (mm_mk 32)) (mm_y 32) (mm_y 32) ∈ mm_T := mm_memS (List.mem_of_getElem? (i := 23) (by decide +kernel)) (by decide +kernel)
theorem mi_48 : Cond.instanceMethod (mm_y 48) ∈ mm_T := (mm_mem 266 (by decide +kernel) (by decide +kernel))
theorem me_48 : Cond.selects (mm_nm (mm_mk 48)) (mm_y 48) (mm_y 48) ∈ mm_T := mm_memS (List.mem_of_getElem? (i := 10) (by decide +kernel)) (by decide +kernel)
theorem mi_46 : Cond.instanceMethod (mm_y 46) ∈ mm_T := (mm_mem 274 (by decide +kernel) (by decide +kernel))
theorem me_46 : Cond.selects (mm_nm (mm_mk 46)) (mm_y 46) (mm_y 46) ∈ mm_T := mm_memS (List.mem_of_getElem? (i := 12) (by decide +kernel)) (by decide +kernel)
theorem ms_112 : Cond.static (mm_y 112) ∈ mm_T := (mm_mem 212 (by decide +kernel) (by decide +kernel))
theorem ms_119 : Cond.static (mm_y 119) ∈ mm_T := (mm_mem 324 (by decide +kernel) (by decide +kernel))
theorem mi_54 : Cond.instanceMethod (mm_y 54) ∈ mm_T := (mm_mem 296 (by decide +kernel) (by decide +kernel))
theorem me_54 : Cond.selects (mm_nm (mm_mk 54)) (mm_y 54) (mm_y 54) ∈ mm_T := mm_memS (List.mem_of_getElem? (i := 17) (by decide +kernel)) (by decide +kernel)
theorem mi_34 : Cond.instanceMethod (mm_y 34) ∈ mm_T := (mm_mem 300 (by decide +kernel) (by decide +kernel))
theorem me_34 : Cond.selects (mm_nm (mm_mk 34)) (mm_y 34) (mm_y 34) ∈ mm_T := mm_memS (List.mem_of_getElem? (i := 18) (by decide +kernel)) (by decide +kernel)
theorem mi_38 : Cond.instanceMethod (mm_y 38) ∈ mm_T := (mm_mem 308 (by decide +kernel) (by decide +kernel))
theorem me_38 : Cond.selects (mm_nm (mm_mk 38)) (mm_y 38) (mm_y 38) ∈ mm_T := mm_memS (List.mem_of_getElem? (i := 20) (by decide +kernel)) (by decide +kernel)
theorem mi_39 : Cond.instanceMethod (mm_y 39) ∈ mm_T := (mm_mem 340 (by decide +kernel) (by decide +kernel))
theorem me_39 : Cond.selects (mm_nm (mm_mk 39)) (mm_y 39) (mm_y 39) ∈ mm_T := mm_memS (List.mem_of_getElem? (i := 25) (by decide +kernel)) (by decide +kernel)
theorem mi_40 : Cond.instanceMethod (mm_y 40) ∈ mm_T := (mm_mem 345 (by decide +kernel) (by decide +kernel))
theorem me_40 : Cond.selects (mm_nm (mm_mk 40)) (mm_y 40) (mm_y 40) ∈ mm_T := mm_memS (List.mem_of_getElem? (i := 26) (by decide +kernel)) (by decide +kernel)
theorem mi_45 : Cond.instanceMethod (mm_y 45) ∈ mm_T := (mm_mem 366 (by decide +kernel) (by decide +kernel))
theorem me_45 : Cond.selects (mm_nm (mm_mk 45)) (mm_y 45) (mm_y 45) ∈ mm_T := mm_memS (List.mem_of_getElem? (i := 31) (by decide +kernel)) (by decide +kernel)
theorem mi_35 : Cond.instanceMethod (mm_y 35) ∈ mm_T := (mm_mem 373 (by decide +kernel) (by decide +kernel))
theorem me_35 : Cond.selects (mm_nm (mm_mk 35)) (mm_y 35) (mm_y 35) ∈ mm_T := mm_memS (List.mem_of_getElem? (i := 32) (by decide +kernel)) (by decide +kernel)
theorem mi_53 : Cond.instanceMethod (mm_y 53) ∈ mm_T := (mm_mem 304 (by decide +kernel) (by decide +kernel))
theorem me_53 : Cond.selects (mm_nm (mm_mk 53)) (mm_y 53) (mm_y 53) ∈ mm_T := mm_memS (List.mem_of_getElem? (i := 19) (by decide +kernel)) (by decide +kernel)
theorem mi_36 : Cond.instanceMethod (mm_y 36) ∈ mm_T := (mm_mem 316 (by decide +kernel) (by decide +kernel))
theorem me_36 : Cond.selects (mm_nm (mm_mk 36)) (mm_y 36) (mm_y 36) ∈ mm_T := mm_memS (List.mem_of_getElem? (i := 22) (by decide +kernel)) (by decide +kernel)
theorem mi_37 : Cond.instanceMethod (mm_y 37) ∈ mm_T := (mm_mem 336 (by decide +kernel) (by decide +kernel))
theorem me_37 : Cond.selects (mm_nm (mm_mk 37)) (mm_y 37) (mm_y 37) ∈ mm_T := mm_memS (List.mem_of_getElem? (i := 24) (by decide +kernel)) (by decide +kernel)
theorem ms_109 : Cond.static (mm_y 109) ∈ mm_T := (mm_mem 376 (by decide +kernel) (by decide +kernel))
theorem ms_110 : Cond.static (mm_y 110) ∈ mm_T := (mm_mem 379 (by decide +kernel) (by decide +kernel))
theorem ms_121 : Cond.static (mm_y 121) ∈ mm_T := (mm_mem 382 (by decide +kernel) (by decide +kernel))
theorem ms_120 : Cond.static (mm_y 120) ∈ mm_T := (mm_mem 406 (by decide +kernel) (by decide +kernel))
theorem mi_55 : Cond.instanceMethod (mm_y 55) ∈ mm_T := (mm_mem 312 (by decide +kernel) (by decide +kernel))
theorem me_55 : Cond.selects (mm_nm (mm_mk 55)) (mm_y 55) (mm_y 55) ∈ mm_T := mm_memS (List.mem_of_getElem? (i := 21) (by decide +kernel)) (by decide +kernel)
theorem mi_47 : Cond.instanceMethod (mm_y 47) ∈ mm_T := (mm_mem 278 (by decide +kernel) (by decide +kernel))
theorem me_47 : Cond.selects (mm_nm (mm_mk 47)) (mm_y 47) (mm_y 47) ∈ mm_T := mm_memS (List.mem_of_getElem? (i := 13) (by decide +kernel)) (by decide +kernel)
theorem mi_41 : Cond.instanceMethod (mm_y 41) ∈ mm_T := (mm_mem 350 (by decide +kernel) (by decide +kernel))
theorem me_41 : Cond.selects (mm_nm (mm_mk 41)) (mm_y 41) (mm_y 41) ∈ mm_T := mm_memS (List.mem_of_getElem? (i := 27) (by decide +kernel)) (by decide +kernel)
theorem mi_42 : Cond.instanceMethod (mm_y 42) ∈ mm_T := (mm_mem 354 (by decide +kernel) (by decide +kernel))
theorem me_42 : Cond.selects (mm_nm (mm_mk 42)) (mm_y 42) (mm_y 42) ∈ mm_T := mm_memS (List.mem_of_getElem? (i := 28) (by decide +kernel)) (by decide +kernel)
theorem mi_43 : Cond.instanceMethod (mm_y 43) ∈ mm_T := (mm_mem 358 (by decide +kernel) (by decide +kernel))
theorem me_43 : Cond.selects (mm_nm (mm_mk 43)) (mm_y 43) (mm_y 43) ∈ mm_T := mm_memS (List.mem_of_getElem? (i := 29) (by decide +kernel)) (by decide +kernel)
theorem mi_44 : Cond.instanceMethod (mm_y 44) ∈ mm_T := (mm_mem 362 (by decide +kernel) (by decide +kernel))
theorem me_44 : Cond.selects (mm_nm (mm_mk 44)) (mm_y 44) (mm_y 44) ∈ mm_T := mm_memS (List.mem_of_getElem? (i := 30) (by decide +kernel)) (by decide +kernel)
theorem ms_113 : Cond.static (mm_y 113) ∈ mm_T := (mm_mem 215 (by decide +kernel) (by decide +kernel))
theorem mi_49 : Cond.instanceMethod (mm_y 49) ∈ mm_T := (mm_mem 270 (by decide +kernel) (by decide +kernel))
theorem me_49 : Cond.selects (mm_nm (mm_mk 49)) (mm_y 49) (mm_y 49) ∈ mm_T := mm_memS (List.mem_of_getElem? (i := 11) (by decide +kernel)) (by decide +kernel)
theorem mi_50 : Cond.instanceMethod (mm_y 50) ∈ mm_T := (mm_mem 458 (by decide +kernel) (by decide +kernel))
theorem me_50 : Cond.selects (mm_nm (mm_mk 50)) (mm_y 50) (mm_y 50) ∈ mm_T := mm_memS (List.mem_of_getElem? (i := 36) (by decide +kernel)) (by decide +kernel)
theorem mi_57 : Cond.instanceMethod (mm_y 57) ∈ mm_T := (mm_mem 467 (by decide +kernel) (by decide +kernel))
theorem me_57 : Cond.selects (mm_nm (mm_mk 57)) (mm_y 57) (mm_y 57) ∈ mm_T := mm_memS (List.mem_of_getElem? (i := 38) (by decide +kernel)) (by decide +kernel)
theorem mi_59 : Cond.instanceMethod (mm_y 59) ∈ mm_T := (mm_mem 472 (by decide +kernel) (by decide +kernel))
theorem me_59 : Cond.selects (mm_nm (mm_mk 59)) (mm_y 59) (mm_y 59) ∈ mm_T := mm_memS (List.mem_of_getElem? (i := 39) (by decide +kernel)) (by decide +kernel)
theorem mi_60 : Cond.instanceMethod (mm_y 60) ∈ mm_T := (mm_mem 477 (by decide +kernel) (by decide +kernel))
theorem me_60 : Cond.selects (mm_nm (mm_mk 60)) (mm_y 60) (mm_y 60) ∈ mm_T := mm_memS (List.mem_of_getElem? (i := 40) (by decide +kernel)) (by decide +kernel)
theorem mi_61 : Cond.instanceMethod (mm_y 61) ∈ mm_T := (mm_mem 482 (by decide +kernel) (by decide +kernel))
theorem me_61 : Cond.selects (mm_nm (mm_mk 61)) (mm_y 61) (mm_y 61) ∈ mm_T := mm_memS (List.mem_of_getElem? (i := 41) (by decide +kernel)) (by decide +kernel)
theorem mi_58 : Cond.instanceMethod (mm_y 58) ∈ mm_T := (mm_mem 488 (by decide +kernel) (by decide +kernel))
theorem me_58 : Cond.selects (mm_nm (mm_mk 58)) (mm_y 58) (mm_y 58) ∈ mm_T := mm_memS (List.mem_of_getElem? (i := 42) (by decide +kernel)) (by decide +kernel)
theorem ms_122 : Cond.static (mm_y 122) ∈ mm_T := (mm_mem 385 (by decide +kernel) (by decide +kernel))
theorem mi_62 : Cond.instanceMethod (mm_y 62) ∈ mm_T := (mm_mem 627 (by decide +kernel) (by decide +kernel))
theorem me_62 : Cond.selects (mm_nm (mm_mk 62)) (mm_y 62) (mm_y 62) ∈ mm_T := mm_memS (List.mem_of_getElem? (i := 45) (by decide +kernel)) (by decide +kernel)
theorem mi_63 : Cond.instanceMethod (mm_y 63) ∈ mm_T := (mm_mem 623 (by decide +kernel) (by decide +kernel))
theorem me_63 : Cond.selects (mm_nm (mm_mk 63)) (mm_y 63) (mm_y 63) ∈ mm_T := mm_memS (List.mem_of_getElem? (i := 44) (by decide +kernel)) (by decide +kernel)
theorem mi_66 : Cond.instanceMethod (mm_y 66) ∈ mm_T := (mm_mem 635 (by decide +kernel) (by decide +kernel))
theorem me_66 : Cond.selects (mm_nm (mm_mk 66)) (mm_y 66) (mm_y 66) ∈ mm_T := mm_memS (List.mem_of_getElem? (i := 47) (by decide +kernel)) (by decide +kernel)
theorem mi_65 : Cond.instanceMethod (mm_y 65) ∈ mm_T := (mm_mem 619 (by decide +kernel) (by decide +kernel))
theorem me_65 : Cond.selects (mm_nm (mm_mk 65)) (mm_y 65) (mm_y 65) ∈ mm_T := mm_memS (List.mem_of_getElem? (i := 43) (by decide +kernel)) (by decide +kernel)
theorem mi_67 : Cond.instanceMethod (mm_y 67) ∈ mm_T := (mm_mem 631 (by decide +kernel) (by decide +kernel))
theorem me_67 : Cond.selects (mm_nm (mm_mk 67)) (mm_y 67) (mm_y 67) ∈ mm_T := mm_memS (List.mem_of_getElem? (i := 46) (by decide +kernel)) (by decide +kernel)
theorem mi_64 : Cond.instanceMethod (mm_y 64) ∈ mm_T := (mm_mem 643 (by decide +kernel) (by decide +kernel))
theorem me_64 : Cond.selects (mm_nm (mm_mk 64)) (mm_y 64) (mm_y 64) ∈ mm_T := mm_memS (List.mem_of_getElem? (i := 48) (by decide +kernel)) (by decide +kernel)
theorem mi_72 : Cond.instanceMethod (mm_y 72) ∈ mm_T := (mm_mem 708 (by decide +kernel) (by decide +kernel))
theorem me_72 : Cond.selects (mm_nm (mm_mk 72)) (mm_y 72) (mm_y 72) ∈ mm_T := mm_memS (List.mem_of_getElem? (i := 63) (by decide +kernel)) (by decide +kernel)
theorem mi_73 : Cond.instanceMethod (mm_y 73) ∈ mm_T := (mm_mem 713 (by decide +kernel) (by decide +kernel))
theorem me_73 : Cond.selects (mm_nm (mm_mk 73)) (mm_y 73) (mm_y 73) ∈ mm_T := mm_memS (List.mem_of_getElem? (i := 64) (by decide +kernel)) (by decide +kernel)
theorem mi_77 : Cond.instanceMethod (mm_y 77) ∈ mm_T := (mm_mem 676 (by decide +kernel) (by decide +kernel))
theorem me_77 : Cond.selects (mm_nm (mm_mk 77)) (mm_y 77) (mm_y 77) ∈ mm_T := mm_memS (List.mem_of_getElem? (i := 55) (by decide +kernel)) (by decide +kernel)
theorem mi_75 : Cond.instanceMethod (mm_y 75) ∈ mm_T := (mm_mem 659 (by decide +kernel) (by decide +kernel))
theorem me_75 : Cond.selects (mm_nm (mm_mk 75)) (mm_y 75) (mm_y 75) ∈ mm_T := mm_memS (List.mem_of_getElem? (i := 51) (by decide +kernel)) (by decide +kernel)
theorem mi_71 : Cond.instanceMethod (mm_y 71) ∈ mm_T := (mm_mem 700 (by decide +kernel) (by decide +kernel))
theorem me_71 : Cond.selects (mm_nm (mm_mk 71)) (mm_y 71) (mm_y 71) ∈ mm_T := mm_memS (List.mem_of_getElem? (i := 61) (by decide +kernel)) (by decide +kernel)
theorem mi_74 : Cond.instanceMethod (mm_y 74) ∈ mm_T := (mm_mem 704 (by decide +kernel) (by decide +kernel))
theorem me_74 : Cond.selects (mm_nm (mm_mk 74)) (mm_y 74) (mm_y 74) ∈ mm_T := mm_memS (List.mem_of_getElem? (i := 62) (by decide +kernel)) (by decide +kernel)
theorem mi_80 : Cond.instanceMethod (mm_y 80) ∈ mm_T := (mm_mem 696 (by decide +kernel) (by decide +kernel))
theorem me_80 : Cond.selects (mm_nm (mm_mk 80)) (mm_y 80) (mm_y 80) ∈ mm_T := mm_memS (List.mem_of_getElem? (i := 60) (by decide +kernel)) (by decide +kernel)
theorem mi_81 : Cond.instanceMethod (mm_y 81) ∈ mm_T := (mm_mem 718 (by decide +kernel) (by decide +kernel))
theorem me_81 : Cond.selects (mm_nm (mm_mk 81)) (mm_y 81) (mm_y 81) ∈ mm_T := mm_memS (List.mem_of_getElem? (i := 65) (by decide +kernel)) (by decide +kernel)
theorem mi_79 : Cond.instanceMethod (mm_y 79) ∈ mm_T := (mm_mem 684 (by decide +kernel) (by decide +kernel))
theorem me_79 : Cond.selects (mm_nm (mm_mk 79)) (mm_y 79) (mm_y 79) ∈ mm_T := mm_memS (List.mem_of_getElem? (i := 57) (by decide +kernel)) (by decide +kernel)
theorem mi_70 : Cond.instanceMethod (mm_y 70) ∈ mm_T := (mm_mem 663 (by decide +kernel) (by decide +kernel))
theorem me_70 : Cond.selects (mm_nm (mm_mk 70)) (mm_y 70) (mm_y 70) ∈ mm_T := mm_memS (List.mem_of_getElem? (i := 52) (by decide +kernel)) (by decide +kernel)
theorem mi_86 : Cond.instanceMethod (mm_y 86) ∈ mm_T := (mm_mem 655 (by decide +kernel) (by decide +kernel))
theorem me_86 : Cond.selects (mm_nm (mm_mk 86)) (mm_y 86) (mm_y 86) ∈ mm_T := mm_memS (List.mem_of_getElem? (i := 50) (by decide +kernel)) (by decide +kernel)
theorem mi_85 : Cond.instanceMethod (mm_y 85) ∈ mm_T := (mm_mem 651 (by decide +kernel) (by decide +kernel))
theorem me_85 : Cond.selects (mm_nm (mm_mk 85)) (mm_y 85) (mm_y 85) ∈ mm_T := mm_memS (List.mem_of_getElem? (i := 49) (by decide +kernel)) (by decide +kernel)
theorem mi_87 : Cond.instanceMethod (mm_y 87) ∈ mm_T := (mm_mem 736 (by decide +kernel) (by decide +kernel))
theorem me_87 : Cond.selects (mm_nm (mm_mk 87)) (mm_y 87) (mm_y 87) ∈ mm_T := mm_memS (List.mem_of_getElem? (i := 69) (by decide +kernel)) (by decide +kernel)
theorem mi_76 : Cond.instanceMethod (mm_y 76) ∈ mm_T := (mm_mem 688 (by decide +kernel) (by decide +kernel))
theorem me_76 : Cond.selects (mm_nm (mm_mk 76)) (mm_y 76) (mm_y 76) ∈ mm_T := mm_memS (List.mem_of_getElem? (i := 58) (by decide +kernel)) (by decide +kernel)
theorem mi_82 : Cond.instanceMethod (mm_y 82) ∈ mm_T := (mm_mem 692 (by decide +kernel) (by decide +kernel))
theorem me_82 : Cond.selects (mm_nm (mm_mk 82)) (mm_y 82) (mm_y 82) ∈ mm_T := mm_memS (List.mem_of_getElem? (i := 59) (by decide +kernel)) (by decide +kernel)
theorem mi_83 : Cond.instanceMethod (mm_y 83) ∈ mm_T := (mm_mem 724 (by decide +kernel) (by decide +kernel))
theorem me_83 : Cond.selects (mm_nm (mm_mk 83)) (mm_y 83) (mm_y 83) ∈ mm_T := mm_memS (List.mem_of_getElem? (i := 66) (by decide +kernel)) (by decide +kernel)
theorem mi_84 : Cond.instanceMethod (mm_y 84) ∈ mm_T := (mm_mem 728 (by decide +kernel) (by decide +kernel))
theorem me_84 : Cond.selects (mm_nm (mm_mk 84)) (mm_y 84) (mm_y 84) ∈ mm_T := mm_memS (List.mem_of_getElem? (i := 67) (by decide +kernel)) (by decide +kernel)
theorem mi_88 : Cond.instanceMethod (mm_y 88) ∈ mm_T := (mm_mem 732 (by decide +kernel) (by decide +kernel))
theorem me_88 : Cond.selects (mm_nm (mm_mk 88)) (mm_y 88) (mm_y 88) ∈ mm_T := mm_memS (List.mem_of_getElem? (i := 68) (by decide +kernel)) (by decide +kernel)
theorem mi_78 : Cond.instanceMethod (mm_y 78) ∈ mm_T := (mm_mem 672 (by decide +kernel) (by decide +kernel))
theorem me_78 : Cond.selects (mm_nm (mm_mk 78)) (mm_y 78) (mm_y 78) ∈ mm_T := mm_memS (List.mem_of_getElem? (i := 54) (by decide +kernel)) (by decide +kernel)
theorem mi_89 : Cond.instanceMethod (mm_y 89) ∈ mm_T := (mm_mem 680 (by decide +kernel) (by decide +kernel))
theorem me_89 : Cond.selects (mm_nm (mm_mk 89)) (mm_y 89) (mm_y 89) ∈ mm_T := mm_memS (List.mem_of_getElem? (i := 56) (by decide +kernel)) (by decide +kernel)
theorem mi_90 : Cond.instanceMethod (mm_y 90) ∈ mm_T := (mm_mem 668 (by decide +kernel) (by decide +kernel))
theorem me_90 : Cond.selects (mm_nm (mm_mk 90)) (mm_y 90) (mm_y 90) ∈ mm_T := mm_memS (List.mem_of_getElem? (i := 53) (by decide +kernel)) (by decide +kernel)
theorem mi_93 : Cond.instanceMethod (mm_y 93) ∈ mm_T := (mm_mem 753 (by decide +kernel) (by decide +kernel))
theorem me_93 : Cond.selects (mm_nm (mm_mk 93)) (mm_y 93) (mm_y 93) ∈ mm_T := mm_memS (List.mem_of_getElem? (i := 71) (by decide +kernel)) (by decide +kernel)
theorem mi_94 : Cond.instanceMethod (mm_y 94) ∈ mm_T := (mm_mem 762 (by decide +kernel) (by decide +kernel))
theorem me_94 : Cond.selects (mm_nm (mm_mk 94)) (mm_y 94) (mm_y 94) ∈ mm_T := mm_memS (List.mem_of_getElem? (i := 73) (by decide +kernel)) (by decide +kernel)
theorem mi_99 : Cond.instanceMethod (mm_y 99) ∈ mm_T := (mm_mem 748 (by decide +kernel) (by decide +kernel))
theorem me_99 : Cond.selects (mm_nm (mm_mk 99)) (mm_y 99) (mm_y 99) ∈ mm_T := mm_memS (List.mem_of_getElem? (i := 70) (by decide +kernel)) (by decide +kernel)
theorem mi_95 : Cond.instanceMethod (mm_y 95) ∈ mm_T := (mm_mem 758 (by decide +kernel) (by decide +kernel))
theorem me_95 : Cond.selects (mm_nm (mm_mk 95)) (mm_y 95) (mm_y 95) ∈ mm_T := mm_memS (List.mem_of_getElem? (i := 72) (by decide +kernel)) (by decide +kernel)
theorem mi_96 : Cond.instanceMethod (mm_y 96) ∈ mm_T := (mm_mem 766 (by decide +kernel) (by decide +kernel))
theorem me_96 : Cond.selects (mm_nm (mm_mk 96)) (mm_y 96) (mm_y 96) ∈ mm_T := mm_memS (List.mem_of_getElem? (i := 74) (by decide +kernel)) (by decide +kernel)
theorem mi_97 : Cond.instanceMethod (mm_y 97) ∈ mm_T := (mm_mem 770 (by decide +kernel) (by decide +kernel))
theorem me_97 : Cond.selects (mm_nm (mm_mk 97)) (mm_y 97) (mm_y 97) ∈ mm_T := mm_memS (List.mem_of_getElem? (i := 75) (by decide +kernel)) (by decide +kernel)
theorem mi_98 : Cond.instanceMethod (mm_y 98) ∈ mm_T := (mm_mem 774 (by decide +kernel) (by decide +kernel))
theorem me_98 : Cond.selects (mm_nm (mm_mk 98)) (mm_y 98) (mm_y 98) ∈ mm_T := mm_memS (List.mem_of_getElem? (i := 76) (by decide +kernel)) (by decide +kernel)
theorem mi_101 : Cond.instanceMethod (mm_y 101) ∈ mm_T := (mm_mem 783 (by decide +kernel) (by decide +kernel))
theorem me_101 : Cond.selects (mm_nm (mm_mk 101)) (mm_y 101) (mm_y 101) ∈ mm_T := mm_memS (List.mem_of_getElem? (i := 77) (by decide +kernel)) (by decide +kernel)
theorem ms_117 : Cond.static (mm_y 117) ∈ mm_T := (mm_mem 327 (by decide +kernel) (by decide +kernel))
theorem ms_118 : Cond.static (mm_y 118) ∈ mm_T := (mm_mem 331 (by decide +kernel) (by decide +kernel))
theorem ms_123 : Cond.static (mm_y 123) ∈ mm_T := (mm_mem 391 (by decide +kernel) (by decide +kernel))
theorem ms_124 : Cond.static (mm_y 124) ∈ mm_T := (mm_mem 395 (by decide +kernel) (by decide +kernel))
theorem mi_0 : Cond.instanceMethod (mm_y 0) ∈ mm_T := (mm_mem 14 (by decide +kernel) (by decide +kernel))
theorem mi_5 : Cond.instanceMethod (mm_y 5) ∈ mm_T := (mm_mem 498 (by decide +kernel) (by decide +kernel))
theorem mi_8 : Cond.instanceMethod (mm_y 8) ∈ mm_T := (mm_mem 190 (by decide +kernel) (by decide +kernel))
theorem me_8 : Cond.selects (mm_nm (mm_mk 8)) (mm_y 8) (mm_y 8) ∈ mm_T := (mm_mem 191 (by decide +kernel) (by decide +kernel))
theorem mi_68 : Cond.instanceMethod (mm_y 68) ∈ mm_T := (mm_mem 614 (by decide +kernel) (by decide +kernel))
theorem me_68 : Cond.selects (mm_nm (mm_mk 68)) (mm_y 68) (mm_y 68) ∈ mm_T := (mm_mem 615 (by decide +kernel) (by decide +kernel))
theorem mi_9 : Cond.instanceMethod (mm_y 9) ∈ mm_T := (mm_mem 233 (by decide +kernel) (by decide +kernel))
theorem me_9 : Cond.selects (mm_nm (mm_mk 9)) (mm_y 9) (mm_y 9) ∈ mm_T := (mm_mem 234 (by decide +kernel) (by decide +kernel))
theorem mi_69 : Cond.instanceMethod (mm_y 69) ∈ mm_T := (mm_mem 638 (by decide +kernel) (by decide +kernel))
theorem me_69 : Cond.selects (mm_nm (mm_mk 69)) (mm_y 69) (mm_y 69) ∈ mm_T := (mm_mem 639 (by decide +kernel) (by decide +kernel))
theorem mi_10 : Cond.instanceMethod (mm_y 10) ∈ mm_T := (mm_mem 249 (by decide +kernel) (by decide +kernel))
theorem me_10 : Cond.selects (mm_nm (mm_mk 10)) (mm_y 10) (mm_y 10) ∈ mm_T := (mm_mem 250 (by decide +kernel) (by decide +kernel))
theorem mi_91 : Cond.instanceMethod (mm_y 91) ∈ mm_T := (mm_mem 646 (by decide +kernel) (by decide +kernel))
theorem me_91 : Cond.selects (mm_nm (mm_mk 91)) (mm_y 91) (mm_y 91) ∈ mm_T := (mm_mem 647 (by decide +kernel) (by decide +kernel))
theorem mi_11 : Cond.instanceMethod (mm_y 11) ∈ mm_T := (mm_mem 411 (by decide +kernel) (by decide +kernel))
theorem me_11 : Cond.selects (mm_nm (mm_mk 11)) (mm_y 11) (mm_y 11) ∈ mm_T := (mm_mem 412 (by decide +kernel) (by decide +kernel))
theorem mi_92 : Cond.instanceMethod (mm_y 92) ∈ mm_T := (mm_mem 739 (by decide +kernel) (by decide +kernel))
theorem me_92 : Cond.selects (mm_nm (mm_mk 92)) (mm_y 92) (mm_y 92) ∈ mm_T := (mm_mem 740 (by decide +kernel) (by decide +kernel))
theorem mi_12 : Cond.instanceMethod (mm_y 12) ∈ mm_T := (mm_mem 415 (by decide +kernel) (by decide +kernel))
theorem me_12 : Cond.selects (mm_nm (mm_mk 12)) (mm_y 12) (mm_y 12) ∈ mm_T := (mm_mem 416 (by decide +kernel) (by decide +kernel))
theorem mi_102 : Cond.instanceMethod (mm_y 102) ∈ mm_T := (mm_mem 778 (by decide +kernel) (by decide +kernel))
theorem me_102 : Cond.selects (mm_nm (mm_mk 102)) (mm_y 102) (mm_y 102) ∈ mm_T := (mm_mem 779 (by decide +kernel) (by decide +kernel))
theorem mi_13 : Cond.instanceMethod (mm_y 13) ∈ mm_T := (mm_mem 423 (by decide +kernel) (by decide +kernel))
theorem me_13 : Cond.selects (mm_nm (mm_mk 13)) (mm_y 13) (mm_y 13) ∈ mm_T := (mm_mem 424 (by decide +kernel) (by decide +kernel))
theorem mi_103 : Cond.instanceMethod (mm_y 103) ∈ mm_T := (mm_mem 786 (by decide +kernel) (by decide +kernel))
theorem me_103 : Cond.selects (mm_nm (mm_mk 103)) (mm_y 103) (mm_y 103) ∈ mm_T := (mm_mem 787 (by decide +kernel) (by decide +kernel))
theorem mi_14 : Cond.instanceMethod (mm_y 14) ∈ mm_T := (mm_mem 428 (by decide +kernel) (by decide +kernel))
theorem me_14 : Cond.selects (mm_nm (mm_mk 14)) (mm_y 14) (mm_y 14) ∈ mm_T := (mm_mem 429 (by decide +kernel) (by decide +kernel))
theorem mi_104 : Cond.instanceMethod (mm_y 104) ∈ mm_T := (mm_mem 790 (by decide +kernel) (by decide +kernel))
theorem me_104 : Cond.selects (mm_nm (mm_mk 104)) (mm_y 104) (mm_y 104) ∈ mm_T := (mm_mem 791 (by decide +kernel) (by decide +kernel))
theorem mi_15 : Cond.instanceMethod (mm_y 15) ∈ mm_T := (mm_mem 433 (by decide +kernel) (by decide +kernel))
theorem me_15 : Cond.selects (mm_nm (mm_mk 15)) (mm_y 15) (mm_y 15) ∈ mm_T := (mm_mem 434 (by decide +kernel) (by decide +kernel))
theorem mi_105 : Cond.instanceMethod (mm_y 105) ∈ mm_T := (mm_mem 794 (by decide +kernel) (by decide +kernel))
theorem me_105 : Cond.selects (mm_nm (mm_mk 105)) (mm_y 105) (mm_y 105) ∈ mm_T := (mm_mem 795 (by decide +kernel) (by decide +kernel))
theorem mi_16 : Cond.instanceMethod (mm_y 16) ∈ mm_T := (mm_mem 437 (by decide +kernel) (by decide +kernel))
theorem me_16 : Cond.selects (mm_nm (mm_mk 16)) (mm_y 16) (mm_y 16) ∈ mm_T := (mm_mem 438 (by decide +kernel) (by decide +kernel))
theorem mi_106 : Cond.instanceMethod (mm_y 106) ∈ mm_T := (mm_mem 798 (by decide +kernel) (by decide +kernel))
theorem me_106 : Cond.selects (mm_nm (mm_mk 106)) (mm_y 106) (mm_y 106) ∈ mm_T := (mm_mem 799 (by decide +kernel) (by decide +kernel))
theorem mi_17 : Cond.instanceMethod (mm_y 17) ∈ mm_T := (mm_mem 449 (by decide +kernel) (by decide +kernel))
theorem me_17 : Cond.selects (mm_nm (mm_mk 17)) (mm_y 17) (mm_y 17) ∈ mm_T := (mm_mem 450 (by decide +kernel) (by decide +kernel))
theorem mi_100 : Cond.instanceMethod (mm_y 100) ∈ mm_T := (mm_mem 743 (by decide +kernel) (by decide +kernel))
theorem me_100 : Cond.selects (mm_nm (mm_mk 100)) (mm_y 100) (mm_y 100) ∈ mm_T := (mm_mem 744 (by decide +kernel) (by decide +kernel))
theorem mi_18 : Cond.instanceMethod (mm_y 18) ∈ mm_T := (mm_mem 492 (by decide +kernel) (by decide +kernel))
theorem me_18 : Cond.selects (mm_nm (mm_mk 18)) (mm_y 18) (mm_y 18) ∈ mm_T := (mm_mem 493 (by decide +kernel) (by decide +kernel))
theorem mi_107 : Cond.instanceMethod (mm_y 107) ∈ mm_T := (mm_mem 802 (by decide +kernel) (by decide +kernel))
theorem me_107 : Cond.selects (mm_nm (mm_mk 107)) (mm_y 107) (mm_y 107) ∈ mm_T := (mm_mem 803 (by decide +kernel) (by decide +kernel))
theorem mtp_0_1 : mm_MTp (0, 1, 7, 0, 3) := ⟨by decide, fun h => absurd rfl h, fun h => absurd h (by decide), fun h => absurd h (by decide), fun h => absurd h (by decide), fun _ => (mm_mem 16 (by decide +kernel) (by decide +kernel))⟩
theorem mtp_0_9 : mm_MTp (0, 9, 1, 0, 2) := ⟨by decide, fun _ => ⟨by decide +kernel, Or.inr ⟨"StagedCompiler", List.mem_of_getElem? (i := 0) (by decide +kernel)⟩⟩, fun h => absurd h (by decide), fun h => absurd h (by decide), fun _ => ⟨rfl, mi_1, rfl⟩, fun h => absurd h (by decide)⟩
theorem mtp_0_12 : mm_MTp (0, 12, 2, 1, 2) := ⟨by decide, fun _ => ⟨by decide +kernel, Or.inr ⟨"StagedCompiler", List.mem_of_getElem? (i := 1) (by decide +kernel)⟩⟩, fun h => absurd h (by decide), fun h => absurd h (by decide), fun _ => ⟨rfl, mi_2, rfl⟩, fun h => absurd h (by decide)⟩
theorem mtp_0_31 : mm_MTp (0, 31, 4, 2, 2) := ⟨by decide, fun _ => ⟨by decide +kernel, Or.inr ⟨"StagedCompiler", List.mem_of_getElem? (i := 2) (by decide +kernel)⟩⟩, fun h => absurd h (by decide), fun h => absurd h (by decide), fun _ => ⟨rfl, mi_4, rfl⟩, fun h => absurd h (by decide)⟩
theorem mtp_1_3 : mm_MTp (1, 3, 7, 0, 3) := ⟨by decide, fun h => absurd rfl h, fun h => absurd h (by decide), fun h => absurd h (by decide), fun h => absurd h (by decide), fun _ => (mm_mem 24 (by decide +kernel) (by decide +kernel))⟩
theorem mtp_2_3 : mm_MTp (2, 3, 7, 0, 3) := ⟨by decide, fun h => absurd rfl h, fun h => absurd h (by decide), fun h => absurd h (by decide), fun h => absurd h (by decide), fun _ => (mm_mem 86 (by decide +kernel) (by decide +kernel))⟩
theorem mtp_2_21 : mm_MTp (2, 21, 3, 0, 2) := ⟨by decide, fun _ => ⟨by decide +kernel, Or.inr ⟨"StagedCompiler", List.mem_of_getElem? (i := 3) (by decide +kernel)⟩⟩, fun h => absurd h (by decide), fun h => absurd h (by decide), fun _ => ⟨rfl, mi_3, rfl⟩, fun h => absurd h (by decide)⟩
theorem mtp_3_3 : mm_MTp (3, 3, 7, 0, 3) := ⟨by decide, fun h => absurd rfl h, fun h => absurd h (by decide), fun h => absurd h (by decide), fun h => absurd h (by decide), fun _ => (mm_mem 93 (by decide +kernel) (by decide +kernel))⟩
theorem mtp_4_3 : mm_MTp (4, 3, 7, 0, 3) := ⟨by decide, fun h => absurd rfl h, fun h => absurd h (by decide), fun h => absurd h (by decide), fun h => absurd h (by decide), fun _ => (mm_mem 164 (by decide +kernel) (by decide +kernel))⟩
theorem mtp_5_1 : mm_MTp (5, 1, 7, 0, 3) := ⟨by decide, fun h => absurd rfl h, fun h => absurd h (by decide), fun h => absurd h (by decide), fun h => absurd h (by decide), fun _ => (mm_mem 500 (by decide +kernel) (by decide +kernel))⟩
theorem mtp_0_38 : mm_MTp (0, 38, 21, 4, 1) := ⟨by decide, fun _ => ⟨by decide +kernel, Or.inr ⟨"StagedCompiler", List.mem_of_getElem? (i := 4) (by decide +kernel)⟩⟩, fun h => absurd h (by decide), fun _ => ⟨mi_21, me_21⟩, fun h => absurd h (by decide), fun h => absurd h (by decide)⟩
theorem mtp_0_42 : mm_MTp (0, 42, 26, 5, 1) := ⟨by decide, fun _ => ⟨by decide +kernel, Or.inr ⟨"StagedCompiler", List.mem_of_getElem? (i := 5) (by decide +kernel)⟩⟩, fun h => absurd h (by decide), fun _ => ⟨mi_26, me_26⟩, fun h => absurd h (by decide), fun h => absurd h (by decide)⟩
theorem mtp_0_46 : mm_MTp (0, 46, 20, 1, 1) := ⟨by decide, fun _ => ⟨by decide +kernel, Or.inr ⟨"StagedCompiler", List.mem_of_getElem? (i := 6) (by decide +kernel)⟩⟩, fun h => absurd h (by decide), fun _ => ⟨mi_20, me_20⟩, fun h => absurd h (by decide), fun h => absurd h (by decide)⟩
theorem mtp_0_50 : mm_MTp (0, 50, 29, 3, 1) := ⟨by decide, fun _ => ⟨by decide +kernel, Or.inr ⟨"StagedCompiler", List.mem_of_getElem? (i := 7) (by decide +kernel)⟩⟩, fun h => absurd h (by decide), fun _ => ⟨mi_29, me_29⟩, fun h => absurd h (by decide), fun h => absurd h (by decide)⟩
theorem mtp_0_58 : mm_MTp (0, 58, 28, 1, 1) := ⟨by decide, fun _ => ⟨by decide +kernel, Or.inr ⟨"StagedCompiler", List.mem_of_getElem? (i := 8) (by decide +kernel)⟩⟩, fun h => absurd h (by decide), fun _ => ⟨mi_28, me_28⟩, fun h => absurd h (by decide), fun h => absurd h (by decide)⟩
theorem mtp_0_78 : mm_MTp (0, 78, 19, 1, 1) := ⟨by decide, fun _ => ⟨by decide +kernel, Or.inr ⟨"StagedCompiler", List.mem_of_getElem? (i := 9) (by decide +kernel)⟩⟩, fun h => absurd h (by decide), fun _ => ⟨mi_19, me_19⟩, fun h => absurd h (by decide), fun h => absurd h (by decide)⟩
theorem mtp_0_91 : mm_MTp (0, 91, 27, 1, 1) := ⟨by decide, fun _ => ⟨by decide +kernel, Or.inr ⟨"StagedCompiler", List.mem_of_getElem? (i := 10) (by decide +kernel)⟩⟩, fun h => absurd h (by decide), fun _ => ⟨mi_27, me_27⟩, fun h => absurd h (by decide), fun h => absurd h (by decide)⟩
theorem mtp_0_95 : mm_MTp (0, 95, 51, 2, 1) := ⟨by decide, fun _ => ⟨by decide +kernel, Or.inr ⟨"StagedCompiler", List.mem_of_getElem? (i := 11) (by decide +kernel)⟩⟩, fun h => absurd h (by decide), fun _ => ⟨mi_51, me_51⟩, fun h => absurd h (by decide), fun h => absurd h (by decide)⟩
theorem mtp_0_99 : mm_MTp (0, 99, 56, 3, 1) := ⟨by decide, fun _ => ⟨by decide +kernel, Or.inr ⟨"StagedCompiler", List.mem_of_getElem? (i := 12) (by decide +kernel)⟩⟩, fun h => absurd h (by decide), fun _ => ⟨mi_56, me_56⟩, fun h => absurd h (by decide), fun h => absurd h (by decide)⟩
theorem mtp_1_50 : mm_MTp (1, 50, 108, 1, 0) := ⟨by decide, fun _ => ⟨by decide +kernel, Or.inr ⟨"StagedCompiler", List.mem_of_getElem? (i := 13) (by decide +kernel)⟩⟩, fun _ => ms_108, fun h => absurd h (by decide), fun h => absurd h (by decide), fun h => absurd h (by decide)⟩
theorem mtp_1_56 : mm_MTp (1, 56, 22, 4, 1) := ⟨by decide, fun _ => ⟨by decide +kernel, Or.inl (mm_mem 200 (by decide +kernel) (by decide +kernel))⟩, fun h => absurd h (by decide), fun _ => ⟨mi_22, me_22⟩, fun h => absurd h (by decide), fun h => absurd h (by decide)⟩
theorem mtp_1_60 : mm_MTp (1, 60, 24, 4, 1) := ⟨by decide, fun _ => ⟨by decide +kernel, Or.inl (mm_mem 221 (by decide +kernel) (by decide +kernel))⟩, fun h => absurd h (by decide), fun _ => ⟨mi_24, me_24⟩, fun h => absurd h (by decide), fun h => absurd h (by decide)⟩
theorem mtp_1_64 : mm_MTp (1, 64, 19, 1, 1) := ⟨by decide, fun _ => ⟨by decide +kernel, Or.inl (mm_mem 204 (by decide +kernel) (by decide +kernel))⟩, fun h => absurd h (by decide), fun _ => ⟨mi_19, me_19⟩, fun h => absurd h (by decide), fun h => absurd h (by decide)⟩
theorem mtp_1_67 : mm_MTp (1, 67, 114, 1, 0) := ⟨by decide, fun _ => ⟨by decide +kernel, Or.inr ⟨"StagedCompiler", List.mem_of_getElem? (i := 14) (by decide +kernel)⟩⟩, fun _ => ms_114, fun h => absurd h (by decide), fun h => absurd h (by decide), fun h => absurd h (by decide)⟩
theorem mtp_1_72 : mm_MTp (1, 72, 23, 1, 1) := ⟨by decide, fun _ => ⟨by decide +kernel, Or.inl (mm_mem 217 (by decide +kernel) (by decide +kernel))⟩, fun h => absurd h (by decide), fun _ => ⟨mi_23, me_23⟩, fun h => absurd h (by decide), fun h => absurd h (by decide)⟩
theorem mtp_1_81 : mm_MTp (1, 81, 25, 1, 1) := ⟨by decide, fun _ => ⟨by decide +kernel, Or.inl (mm_mem 228 (by decide +kernel) (by decide +kernel))⟩, fun h => absurd h (by decide), fun _ => ⟨mi_25, me_25⟩, fun h => absurd h (by decide), fun h => absurd h (by decide)⟩
theorem mtp_1_85 : mm_MTp (1, 85, 116, 1, 0) := ⟨by decide, fun _ => ⟨by decide +kernel, Or.inr ⟨"StagedCompiler", List.mem_of_getElem? (i := 15) (by decide +kernel)⟩⟩, fun _ => ms_116, fun h => absurd h (by decide), fun h => absurd h (by decide), fun h => absurd h (by decide)⟩
theorem mtp_1_88 : mm_MTp (1, 88, 115, 1, 0) := ⟨by decide, fun _ => ⟨by decide +kernel, Or.inr ⟨"StagedCompiler", List.mem_of_getElem? (i := 16) (by decide +kernel)⟩⟩, fun _ => ms_115, fun h => absurd h (by decide), fun h => absurd h (by decide), fun h => absurd h (by decide)⟩
theorem mtp_1_91 : mm_MTp (1, 91, 111, 1, 0) := ⟨by decide, fun _ => ⟨by decide +kernel, Or.inr ⟨"StagedCompiler", List.mem_of_getElem? (i := 17) (by decide +kernel)⟩⟩, fun _ => ms_111, fun h => absurd h (by decide), fun h => absurd h (by decide), fun h => absurd h (by decide)⟩
theorem mtp_1_94 : mm_MTp (1, 94, 52, 1, 1) := ⟨by decide, fun _ => ⟨by decide +kernel, Or.inr ⟨"StagedCompiler", List.mem_of_getElem? (i := 18) (by decide +kernel)⟩⟩, fun h => absurd h (by decide), fun _ => ⟨mi_52, me_52⟩, fun h => absurd h (by decide), fun h => absurd h (by decide)⟩
theorem mtp_2_32 : mm_MTp (2, 32, 31, 3, 1) := ⟨by decide, fun _ => ⟨by decide +kernel, Or.inl (mm_mem 260 (by decide +kernel) (by decide +kernel))⟩, fun h => absurd h (by decide), fun _ => ⟨mi_31, me_31⟩, fun h => absurd h (by decide), fun h => absurd h (by decide)⟩
theorem mtp_2_36 : mm_MTp (2, 36, 30, 3, 1) := ⟨by decide, fun _ => ⟨by decide +kernel, Or.inl (mm_mem 282 (by decide +kernel) (by decide +kernel))⟩, fun h => absurd h (by decide), fun _ => ⟨mi_30, me_30⟩, fun h => absurd h (by decide), fun h => absurd h (by decide)⟩
theorem mtp_2_49 : mm_MTp (2, 49, 33, 2, 1) := ⟨by decide, fun _ => ⟨by decide +kernel, Or.inl (mm_mem 286 (by decide +kernel) (by decide +kernel))⟩, fun h => absurd h (by decide), fun _ => ⟨mi_33, me_33⟩, fun h => absurd h (by decide), fun h => absurd h (by decide)⟩
theorem mtp_2_56 : mm_MTp (2, 56, 32, 4, 1) := ⟨by decide, fun _ => ⟨by decide +kernel, Or.inl (mm_mem 318 (by decide +kernel) (by decide +kernel))⟩, fun h => absurd h (by decide), fun _ => ⟨mi_32, me_32⟩, fun h => absurd h (by decide), fun h => absurd h (by decide)⟩
theorem mtp_2_60 : mm_MTp (2, 60, 48, 3, 1) := ⟨by decide, fun _ => ⟨by decide +kernel, Or.inr ⟨"StagedCompiler", List.mem_of_getElem? (i := 19) (by decide +kernel)⟩⟩, fun h => absurd h (by decide), fun _ => ⟨mi_48, me_48⟩, fun h => absurd h (by decide), fun h => absurd h (by decide)⟩
theorem mtp_2_64 : mm_MTp (2, 64, 46, 4, 1) := ⟨by decide, fun _ => ⟨by decide +kernel, Or.inr ⟨"StagedCompiler", List.mem_of_getElem? (i := 20) (by decide +kernel)⟩⟩, fun h => absurd h (by decide), fun _ => ⟨mi_46, me_46⟩, fun h => absurd h (by decide), fun h => absurd h (by decide)⟩
theorem mtp_2_73 : mm_MTp (2, 73, 112, 1, 0) := ⟨by decide, fun _ => ⟨by decide +kernel, Or.inr ⟨"StagedCompiler", List.mem_of_getElem? (i := 21) (by decide +kernel)⟩⟩, fun _ => ms_112, fun h => absurd h (by decide), fun h => absurd h (by decide), fun h => absurd h (by decide)⟩
theorem mtp_2_81 : mm_MTp (2, 81, 119, 2, 0) := ⟨by decide, fun _ => ⟨by decide +kernel, Or.inr ⟨"StagedCompiler", List.mem_of_getElem? (i := 22) (by decide +kernel)⟩⟩, fun _ => ms_119, fun h => absurd h (by decide), fun h => absurd h (by decide), fun h => absurd h (by decide)⟩
theorem mtp_2_85 : mm_MTp (2, 85, 52, 1, 1) := ⟨by decide, fun _ => ⟨by decide +kernel, Or.inr ⟨"StagedCompiler", List.mem_of_getElem? (i := 23) (by decide +kernel)⟩⟩, fun h => absurd h (by decide), fun _ => ⟨mi_52, me_52⟩, fun h => absurd h (by decide), fun h => absurd h (by decide)⟩
theorem mtp_2_94 : mm_MTp (2, 94, 54, 3, 1) := ⟨by decide, fun _ => ⟨by decide +kernel, Or.inr ⟨"StagedCompiler", List.mem_of_getElem? (i := 24) (by decide +kernel)⟩⟩, fun h => absurd h (by decide), fun _ => ⟨mi_54, me_54⟩, fun h => absurd h (by decide), fun h => absurd h (by decide)⟩
theorem mtp_2_98 : mm_MTp (2, 98, 34, 2, 1) := ⟨by decide, fun _ => ⟨by decide +kernel, Or.inl (mm_mem 298 (by decide +kernel) (by decide +kernel))⟩, fun h => absurd h (by decide), fun _ => ⟨mi_34, me_34⟩, fun h => absurd h (by decide), fun h => absurd h (by decide)⟩
theorem mtp_2_101 : mm_MTp (2, 101, 38, 2, 1) := ⟨by decide, fun _ => ⟨by decide +kernel, Or.inl (mm_mem 306 (by decide +kernel) (by decide +kernel))⟩, fun h => absurd h (by decide), fun _ => ⟨mi_38, me_38⟩, fun h => absurd h (by decide), fun h => absurd h (by decide)⟩
theorem mtp_2_104 : mm_MTp (2, 104, 39, 2, 1) := ⟨by decide, fun _ => ⟨by decide +kernel, Or.inl (mm_mem 338 (by decide +kernel) (by decide +kernel))⟩, fun h => absurd h (by decide), fun _ => ⟨mi_39, me_39⟩, fun h => absurd h (by decide), fun h => absurd h (by decide)⟩
theorem mtp_2_107 : mm_MTp (2, 107, 40, 2, 1) := ⟨by decide, fun _ => ⟨by decide +kernel, Or.inl (mm_mem 343 (by decide +kernel) (by decide +kernel))⟩, fun h => absurd h (by decide), fun _ => ⟨mi_40, me_40⟩, fun h => absurd h (by decide), fun h => absurd h (by decide)⟩
theorem mtp_2_110 : mm_MTp (2, 110, 45, 2, 1) := ⟨by decide, fun _ => ⟨by decide +kernel, Or.inl (mm_mem 364 (by decide +kernel) (by decide +kernel))⟩, fun h => absurd h (by decide), fun _ => ⟨mi_45, me_45⟩, fun h => absurd h (by decide), fun h => absurd h (by decide)⟩
theorem mtp_2_113 : mm_MTp (2, 113, 35, 2, 1) := ⟨by decide, fun _ => ⟨by decide +kernel, Or.inl (mm_mem 371 (by decide +kernel) (by decide +kernel))⟩, fun h => absurd h (by decide), fun _ => ⟨mi_35, me_35⟩, fun h => absurd h (by decide), fun h => absurd h (by decide)⟩
theorem mtp_2_122 : mm_MTp (2, 122, 53, 2, 1) := ⟨by decide, fun _ => ⟨by decide +kernel, Or.inr ⟨"StagedCompiler", List.mem_of_getElem? (i := 25) (by decide +kernel)⟩⟩, fun h => absurd h (by decide), fun _ => ⟨mi_53, me_53⟩, fun h => absurd h (by decide), fun h => absurd h (by decide)⟩
theorem mtp_2_129 : mm_MTp (2, 129, 36, 4, 1) := ⟨by decide, fun _ => ⟨by decide +kernel, Or.inl (mm_mem 314 (by decide +kernel) (by decide +kernel))⟩, fun h => absurd h (by decide), fun _ => ⟨mi_36, me_36⟩, fun h => absurd h (by decide), fun h => absurd h (by decide)⟩
theorem mtp_2_132 : mm_MTp (2, 132, 37, 3, 1) := ⟨by decide, fun _ => ⟨by decide +kernel, Or.inl (mm_mem 334 (by decide +kernel) (by decide +kernel))⟩, fun h => absurd h (by decide), fun _ => ⟨mi_37, me_37⟩, fun h => absurd h (by decide), fun h => absurd h (by decide)⟩
theorem mtp_2_138 : mm_MTp (2, 138, 109, 1, 0) := ⟨by decide, fun _ => ⟨by decide +kernel, Or.inr ⟨"StagedCompiler", List.mem_of_getElem? (i := 26) (by decide +kernel)⟩⟩, fun _ => ms_109, fun h => absurd h (by decide), fun h => absurd h (by decide), fun h => absurd h (by decide)⟩
theorem mtp_2_141 : mm_MTp (2, 141, 110, 1, 0) := ⟨by decide, fun _ => ⟨by decide +kernel, Or.inr ⟨"StagedCompiler", List.mem_of_getElem? (i := 27) (by decide +kernel)⟩⟩, fun _ => ms_110, fun h => absurd h (by decide), fun h => absurd h (by decide), fun h => absurd h (by decide)⟩
theorem mtp_2_148 : mm_MTp (2, 148, 121, 4, 0) := ⟨by decide, fun _ => ⟨by decide +kernel, Or.inr ⟨"StagedCompiler", List.mem_of_getElem? (i := 28) (by decide +kernel)⟩⟩, fun _ => ms_121, fun h => absurd h (by decide), fun h => absurd h (by decide), fun h => absurd h (by decide)⟩
theorem mtp_2_154 : mm_MTp (2, 154, 120, 1, 0) := ⟨by decide, fun _ => ⟨by decide +kernel, Or.inr ⟨"StagedCompiler", List.mem_of_getElem? (i := 29) (by decide +kernel)⟩⟩, fun _ => ms_120, fun h => absurd h (by decide), fun h => absurd h (by decide), fun h => absurd h (by decide)⟩
theorem mtp_2_163 : mm_MTp (2, 163, 55, 2, 1) := ⟨by decide, fun _ => ⟨by decide +kernel, Or.inr ⟨"StagedCompiler", List.mem_of_getElem? (i := 30) (by decide +kernel)⟩⟩, fun h => absurd h (by decide), fun _ => ⟨mi_55, me_55⟩, fun h => absurd h (by decide), fun h => absurd h (by decide)⟩
theorem mtp_2_166 : mm_MTp (2, 166, 47, 1, 1) := ⟨by decide, fun _ => ⟨by decide +kernel, Or.inr ⟨"StagedCompiler", List.mem_of_getElem? (i := 31) (by decide +kernel)⟩⟩, fun h => absurd h (by decide), fun _ => ⟨mi_47, me_47⟩, fun h => absurd h (by decide), fun h => absurd h (by decide)⟩
theorem mtp_2_170 : mm_MTp (2, 170, 20, 1, 1) := ⟨by decide, fun _ => ⟨by decide +kernel, Or.inr ⟨"StagedCompiler", List.mem_of_getElem? (i := 32) (by decide +kernel)⟩⟩, fun h => absurd h (by decide), fun _ => ⟨mi_20, me_20⟩, fun h => absurd h (by decide), fun h => absurd h (by decide)⟩
theorem mtp_2_176 : mm_MTp (2, 176, 41, 2, 1) := ⟨by decide, fun _ => ⟨by decide +kernel, Or.inl (mm_mem 348 (by decide +kernel) (by decide +kernel))⟩, fun h => absurd h (by decide), fun _ => ⟨mi_41, me_41⟩, fun h => absurd h (by decide), fun h => absurd h (by decide)⟩
theorem mtp_2_182 : mm_MTp (2, 182, 42, 3, 1) := ⟨by decide, fun _ => ⟨by decide +kernel, Or.inl (mm_mem 352 (by decide +kernel) (by decide +kernel))⟩, fun h => absurd h (by decide), fun _ => ⟨mi_42, me_42⟩, fun h => absurd h (by decide), fun h => absurd h (by decide)⟩
theorem mtp_2_186 : mm_MTp (2, 186, 43, 2, 1) := ⟨by decide, fun _ => ⟨by decide +kernel, Or.inl (mm_mem 356 (by decide +kernel) (by decide +kernel))⟩, fun h => absurd h (by decide), fun _ => ⟨mi_43, me_43⟩, fun h => absurd h (by decide), fun h => absurd h (by decide)⟩
theorem mtp_2_190 : mm_MTp (2, 190, 44, 4, 1) := ⟨by decide, fun _ => ⟨by decide +kernel, Or.inl (mm_mem 360 (by decide +kernel) (by decide +kernel))⟩, fun h => absurd h (by decide), fun _ => ⟨mi_44, me_44⟩, fun h => absurd h (by decide), fun h => absurd h (by decide)⟩
theorem mtp_3_49 : mm_MTp (3, 49, 47, 1, 1) := ⟨by decide, fun _ => ⟨by decide +kernel, Or.inl (mm_mem 276 (by decide +kernel) (by decide +kernel))⟩, fun h => absurd h (by decide), fun _ => ⟨mi_47, me_47⟩, fun h => absurd h (by decide), fun h => absurd h (by decide)⟩
theorem mtp_3_56 : mm_MTp (3, 56, 113, 1, 0) := ⟨by decide, fun _ => ⟨by decide +kernel, Or.inr ⟨"StagedCompiler", List.mem_of_getElem? (i := 33) (by decide +kernel)⟩⟩, fun _ => ms_113, fun h => absurd h (by decide), fun h => absurd h (by decide), fun h => absurd h (by decide)⟩
theorem mtp_3_62 : mm_MTp (3, 62, 49, 2, 1) := ⟨by decide, fun _ => ⟨by decide +kernel, Or.inl (mm_mem 268 (by decide +kernel) (by decide +kernel))⟩, fun h => absurd h (by decide), fun _ => ⟨mi_49, me_49⟩, fun h => absurd h (by decide), fun h => absurd h (by decide)⟩
theorem mtp_3_66 : mm_MTp (3, 66, 50, 1, 1) := ⟨by decide, fun _ => ⟨by decide +kernel, Or.inl (mm_mem 456 (by decide +kernel) (by decide +kernel))⟩, fun h => absurd h (by decide), fun _ => ⟨mi_50, me_50⟩, fun h => absurd h (by decide), fun h => absurd h (by decide)⟩
theorem mtp_3_69 : mm_MTp (3, 69, 119, 2, 0) := ⟨by decide, fun _ => ⟨by decide +kernel, Or.inr ⟨"StagedCompiler", List.mem_of_getElem? (i := 34) (by decide +kernel)⟩⟩, fun _ => ms_119, fun h => absurd h (by decide), fun h => absurd h (by decide), fun h => absurd h (by decide)⟩
theorem mtp_4_37 : mm_MTp (4, 37, 57, 5, 1) := ⟨by decide, fun _ => ⟨by decide +kernel, Or.inl (mm_mem 465 (by decide +kernel) (by decide +kernel))⟩, fun h => absurd h (by decide), fun _ => ⟨mi_57, me_57⟩, fun h => absurd h (by decide), fun h => absurd h (by decide)⟩
theorem mtp_4_57 : mm_MTp (4, 57, 59, 5, 1) := ⟨by decide, fun _ => ⟨by decide +kernel, Or.inl (mm_mem 470 (by decide +kernel) (by decide +kernel))⟩, fun h => absurd h (by decide), fun _ => ⟨mi_59, me_59⟩, fun h => absurd h (by decide), fun h => absurd h (by decide)⟩
theorem mtp_4_60 : mm_MTp (4, 60, 60, 5, 1) := ⟨by decide, fun _ => ⟨by decide +kernel, Or.inl (mm_mem 475 (by decide +kernel) (by decide +kernel))⟩, fun h => absurd h (by decide), fun _ => ⟨mi_60, me_60⟩, fun h => absurd h (by decide), fun h => absurd h (by decide)⟩
theorem mtp_4_63 : mm_MTp (4, 63, 61, 5, 1) := ⟨by decide, fun _ => ⟨by decide +kernel, Or.inl (mm_mem 480 (by decide +kernel) (by decide +kernel))⟩, fun h => absurd h (by decide), fun _ => ⟨mi_61, me_61⟩, fun h => absurd h (by decide), fun h => absurd h (by decide)⟩
theorem mtp_4_66 : mm_MTp (4, 66, 58, 5, 1) := ⟨by decide, fun _ => ⟨by decide +kernel, Or.inl (mm_mem 486 (by decide +kernel) (by decide +kernel))⟩, fun h => absurd h (by decide), fun _ => ⟨mi_58, me_58⟩, fun h => absurd h (by decide), fun h => absurd h (by decide)⟩
theorem mtp_4_69 : mm_MTp (4, 69, 120, 1, 0) := ⟨by decide, fun _ => ⟨by decide +kernel, Or.inr ⟨"StagedCompiler", List.mem_of_getElem? (i := 35) (by decide +kernel)⟩⟩, fun _ => ms_120, fun h => absurd h (by decide), fun h => absurd h (by decide), fun h => absurd h (by decide)⟩
theorem mtp_4_81 : mm_MTp (4, 81, 121, 4, 0) := ⟨by decide, fun _ => ⟨by decide +kernel, Or.inr ⟨"StagedCompiler", List.mem_of_getElem? (i := 36) (by decide +kernel)⟩⟩, fun _ => ms_121, fun h => absurd h (by decide), fun h => absurd h (by decide), fun h => absurd h (by decide)⟩
theorem mtp_4_88 : mm_MTp (4, 88, 122, 2, 0) := ⟨by decide, fun _ => ⟨by decide +kernel, Or.inr ⟨"StagedCompiler", List.mem_of_getElem? (i := 37) (by decide +kernel)⟩⟩, fun _ => ms_122, fun h => absurd h (by decide), fun h => absurd h (by decide), fun h => absurd h (by decide)⟩
theorem mtp_4_97 : mm_MTp (4, 97, 50, 1, 1) := ⟨by decide, fun _ => ⟨by decide +kernel, Or.inr ⟨"StagedCompiler", List.mem_of_getElem? (i := 38) (by decide +kernel)⟩⟩, fun h => absurd h (by decide), fun _ => ⟨mi_50, me_50⟩, fun h => absurd h (by decide), fun h => absurd h (by decide)⟩
theorem mtp_5_125 : mm_MTp (5, 125, 62, 1, 1) := ⟨by decide, fun _ => ⟨by decide +kernel, Or.inl (mm_mem 625 (by decide +kernel) (by decide +kernel))⟩, fun h => absurd h (by decide), fun _ => ⟨mi_62, me_62⟩, fun h => absurd h (by decide), fun h => absurd h (by decide)⟩
theorem mtp_5_129 : mm_MTp (5, 129, 63, 1, 1) := ⟨by decide, fun _ => ⟨by decide +kernel, Or.inl (mm_mem 621 (by decide +kernel) (by decide +kernel))⟩, fun h => absurd h (by decide), fun _ => ⟨mi_63, me_63⟩, fun h => absurd h (by decide), fun h => absurd h (by decide)⟩
theorem mtp_5_132 : mm_MTp (5, 132, 66, 1, 1) := ⟨by decide, fun _ => ⟨by decide +kernel, Or.inl (mm_mem 633 (by decide +kernel) (by decide +kernel))⟩, fun h => absurd h (by decide), fun _ => ⟨mi_66, me_66⟩, fun h => absurd h (by decide), fun h => absurd h (by decide)⟩
theorem mtp_5_136 : mm_MTp (5, 136, 65, 1, 1) := ⟨by decide, fun _ => ⟨by decide +kernel, Or.inl (mm_mem 617 (by decide +kernel) (by decide +kernel))⟩, fun h => absurd h (by decide), fun _ => ⟨mi_65, me_65⟩, fun h => absurd h (by decide), fun h => absurd h (by decide)⟩
theorem mtp_5_139 : mm_MTp (5, 139, 67, 3, 1) := ⟨by decide, fun _ => ⟨by decide +kernel, Or.inl (mm_mem 629 (by decide +kernel) (by decide +kernel))⟩, fun h => absurd h (by decide), fun _ => ⟨mi_67, me_67⟩, fun h => absurd h (by decide), fun h => absurd h (by decide)⟩
theorem mtp_5_143 : mm_MTp (5, 143, 64, 1, 1) := ⟨by decide, fun _ => ⟨by decide +kernel, Or.inl (mm_mem 641 (by decide +kernel) (by decide +kernel))⟩, fun h => absurd h (by decide), fun _ => ⟨mi_64, me_64⟩, fun h => absurd h (by decide), fun h => absurd h (by decide)⟩
theorem mtp_5_152 : mm_MTp (5, 152, 72, 1, 1) := ⟨by decide, fun _ => ⟨by decide +kernel, Or.inl (mm_mem 706 (by decide +kernel) (by decide +kernel))⟩, fun h => absurd h (by decide), fun _ => ⟨mi_72, me_72⟩, fun h => absurd h (by decide), fun h => absurd h (by decide)⟩
theorem mtp_5_156 : mm_MTp (5, 156, 73, 1, 1) := ⟨by decide, fun _ => ⟨by decide +kernel, Or.inl (mm_mem 711 (by decide +kernel) (by decide +kernel))⟩, fun h => absurd h (by decide), fun _ => ⟨mi_73, me_73⟩, fun h => absurd h (by decide), fun h => absurd h (by decide)⟩
theorem mtp_5_159 : mm_MTp (5, 159, 77, 1, 1) := ⟨by decide, fun _ => ⟨by decide +kernel, Or.inl (mm_mem 674 (by decide +kernel) (by decide +kernel))⟩, fun h => absurd h (by decide), fun _ => ⟨mi_77, me_77⟩, fun h => absurd h (by decide), fun h => absurd h (by decide)⟩
theorem mtp_5_162 : mm_MTp (5, 162, 75, 3, 1) := ⟨by decide, fun _ => ⟨by decide +kernel, Or.inl (mm_mem 657 (by decide +kernel) (by decide +kernel))⟩, fun h => absurd h (by decide), fun _ => ⟨mi_75, me_75⟩, fun h => absurd h (by decide), fun h => absurd h (by decide)⟩
theorem mtp_5_165 : mm_MTp (5, 165, 71, 1, 1) := ⟨by decide, fun _ => ⟨by decide +kernel, Or.inl (mm_mem 698 (by decide +kernel) (by decide +kernel))⟩, fun h => absurd h (by decide), fun _ => ⟨mi_71, me_71⟩, fun h => absurd h (by decide), fun h => absurd h (by decide)⟩
theorem mtp_5_168 : mm_MTp (5, 168, 74, 2, 1) := ⟨by decide, fun _ => ⟨by decide +kernel, Or.inl (mm_mem 702 (by decide +kernel) (by decide +kernel))⟩, fun h => absurd h (by decide), fun _ => ⟨mi_74, me_74⟩, fun h => absurd h (by decide), fun h => absurd h (by decide)⟩
theorem mtp_5_176 : mm_MTp (5, 176, 80, 4, 1) := ⟨by decide, fun _ => ⟨by decide +kernel, Or.inl (mm_mem 694 (by decide +kernel) (by decide +kernel))⟩, fun h => absurd h (by decide), fun _ => ⟨mi_80, me_80⟩, fun h => absurd h (by decide), fun h => absurd h (by decide)⟩
theorem mtp_5_180 : mm_MTp (5, 180, 81, 4, 1) := ⟨by decide, fun _ => ⟨by decide +kernel, Or.inl (mm_mem 716 (by decide +kernel) (by decide +kernel))⟩, fun h => absurd h (by decide), fun _ => ⟨mi_81, me_81⟩, fun h => absurd h (by decide), fun h => absurd h (by decide)⟩
theorem mtp_5_184 : mm_MTp (5, 184, 79, 5, 1) := ⟨by decide, fun _ => ⟨by decide +kernel, Or.inl (mm_mem 682 (by decide +kernel) (by decide +kernel))⟩, fun h => absurd h (by decide), fun _ => ⟨mi_79, me_79⟩, fun h => absurd h (by decide), fun h => absurd h (by decide)⟩
theorem mtp_5_188 : mm_MTp (5, 188, 70, 2, 1) := ⟨by decide, fun _ => ⟨by decide +kernel, Or.inl (mm_mem 661 (by decide +kernel) (by decide +kernel))⟩, fun h => absurd h (by decide), fun _ => ⟨mi_70, me_70⟩, fun h => absurd h (by decide), fun h => absurd h (by decide)⟩
theorem mtp_5_192 : mm_MTp (5, 192, 86, 4, 1) := ⟨by decide, fun _ => ⟨by decide +kernel, Or.inl (mm_mem 653 (by decide +kernel) (by decide +kernel))⟩, fun h => absurd h (by decide), fun _ => ⟨mi_86, me_86⟩, fun h => absurd h (by decide), fun h => absurd h (by decide)⟩
theorem mtp_5_196 : mm_MTp (5, 196, 85, 5, 1) := ⟨by decide, fun _ => ⟨by decide +kernel, Or.inl (mm_mem 649 (by decide +kernel) (by decide +kernel))⟩, fun h => absurd h (by decide), fun _ => ⟨mi_85, me_85⟩, fun h => absurd h (by decide), fun h => absurd h (by decide)⟩
theorem mtp_5_200 : mm_MTp (5, 200, 87, 4, 1) := ⟨by decide, fun _ => ⟨by decide +kernel, Or.inl (mm_mem 734 (by decide +kernel) (by decide +kernel))⟩, fun h => absurd h (by decide), fun _ => ⟨mi_87, me_87⟩, fun h => absurd h (by decide), fun h => absurd h (by decide)⟩
theorem mtp_5_204 : mm_MTp (5, 204, 76, 2, 1) := ⟨by decide, fun _ => ⟨by decide +kernel, Or.inl (mm_mem 686 (by decide +kernel) (by decide +kernel))⟩, fun h => absurd h (by decide), fun _ => ⟨mi_76, me_76⟩, fun h => absurd h (by decide), fun h => absurd h (by decide)⟩
theorem mtp_5_207 : mm_MTp (5, 207, 82, 2, 1) := ⟨by decide, fun _ => ⟨by decide +kernel, Or.inl (mm_mem 690 (by decide +kernel) (by decide +kernel))⟩, fun h => absurd h (by decide), fun _ => ⟨mi_82, me_82⟩, fun h => absurd h (by decide), fun h => absurd h (by decide)⟩
theorem mtp_5_211 : mm_MTp (5, 211, 83, 2, 1) := ⟨by decide, fun _ => ⟨by decide +kernel, Or.inl (mm_mem 722 (by decide +kernel) (by decide +kernel))⟩, fun h => absurd h (by decide), fun _ => ⟨mi_83, me_83⟩, fun h => absurd h (by decide), fun h => absurd h (by decide)⟩
theorem mtp_5_214 : mm_MTp (5, 214, 84, 2, 1) := ⟨by decide, fun _ => ⟨by decide +kernel, Or.inl (mm_mem 726 (by decide +kernel) (by decide +kernel))⟩, fun h => absurd h (by decide), fun _ => ⟨mi_84, me_84⟩, fun h => absurd h (by decide), fun h => absurd h (by decide)⟩
theorem mtp_5_217 : mm_MTp (5, 217, 88, 2, 1) := ⟨by decide, fun _ => ⟨by decide +kernel, Or.inl (mm_mem 730 (by decide +kernel) (by decide +kernel))⟩, fun h => absurd h (by decide), fun _ => ⟨mi_88, me_88⟩, fun h => absurd h (by decide), fun h => absurd h (by decide)⟩
theorem mtp_5_220 : mm_MTp (5, 220, 78, 2, 1) := ⟨by decide, fun _ => ⟨by decide +kernel, Or.inl (mm_mem 670 (by decide +kernel) (by decide +kernel))⟩, fun h => absurd h (by decide), fun _ => ⟨mi_78, me_78⟩, fun h => absurd h (by decide), fun h => absurd h (by decide)⟩
theorem mtp_5_223 : mm_MTp (5, 223, 89, 2, 1) := ⟨by decide, fun _ => ⟨by decide +kernel, Or.inl (mm_mem 678 (by decide +kernel) (by decide +kernel))⟩, fun h => absurd h (by decide), fun _ => ⟨mi_89, me_89⟩, fun h => absurd h (by decide), fun h => absurd h (by decide)⟩
theorem mtp_5_226 : mm_MTp (5, 226, 90, 1, 1) := ⟨by decide, fun _ => ⟨by decide +kernel, Or.inl (mm_mem 666 (by decide +kernel) (by decide +kernel))⟩, fun h => absurd h (by decide), fun _ => ⟨mi_90, me_90⟩, fun h => absurd h (by decide), fun h => absurd h (by decide)⟩
theorem mtp_5_232 : mm_MTp (5, 232, 93, 1, 1) := ⟨by decide, fun _ => ⟨by decide +kernel, Or.inl (mm_mem 751 (by decide +kernel) (by decide +kernel))⟩, fun h => absurd h (by decide), fun _ => ⟨mi_93, me_93⟩, fun h => absurd h (by decide), fun h => absurd h (by decide)⟩
theorem mtp_5_235 : mm_MTp (5, 235, 94, 1, 1) := ⟨by decide, fun _ => ⟨by decide +kernel, Or.inl (mm_mem 760 (by decide +kernel) (by decide +kernel))⟩, fun h => absurd h (by decide), fun _ => ⟨mi_94, me_94⟩, fun h => absurd h (by decide), fun h => absurd h (by decide)⟩
theorem mtp_5_241 : mm_MTp (5, 241, 99, 3, 1) := ⟨by decide, fun _ => ⟨by decide +kernel, Or.inl (mm_mem 746 (by decide +kernel) (by decide +kernel))⟩, fun h => absurd h (by decide), fun _ => ⟨mi_99, me_99⟩, fun h => absurd h (by decide), fun h => absurd h (by decide)⟩
theorem mtp_5_247 : mm_MTp (5, 247, 95, 1, 1) := ⟨by decide, fun _ => ⟨by decide +kernel, Or.inl (mm_mem 756 (by decide +kernel) (by decide +kernel))⟩, fun h => absurd h (by decide), fun _ => ⟨mi_95, me_95⟩, fun h => absurd h (by decide), fun h => absurd h (by decide)⟩
theorem mtp_5_250 : mm_MTp (5, 250, 96, 1, 1) := ⟨by decide, fun _ => ⟨by decide +kernel, Or.inl (mm_mem 764 (by decide +kernel) (by decide +kernel))⟩, fun h => absurd h (by decide), fun _ => ⟨mi_96, me_96⟩, fun h => absurd h (by decide), fun h => absurd h (by decide)⟩
theorem mtp_5_253 : mm_MTp (5, 253, 97, 1, 1) := ⟨by decide, fun _ => ⟨by decide +kernel, Or.inl (mm_mem 768 (by decide +kernel) (by decide +kernel))⟩, fun h => absurd h (by decide), fun _ => ⟨mi_97, me_97⟩, fun h => absurd h (by decide), fun h => absurd h (by decide)⟩
theorem mtp_5_256 : mm_MTp (5, 256, 98, 1, 1) := ⟨by decide, fun _ => ⟨by decide +kernel, Or.inl (mm_mem 772 (by decide +kernel) (by decide +kernel))⟩, fun h => absurd h (by decide), fun _ => ⟨mi_98, me_98⟩, fun h => absurd h (by decide), fun h => absurd h (by decide)⟩
theorem mtp_5_259 : mm_MTp (5, 259, 101, 1, 1) := ⟨by decide, fun _ => ⟨by decide +kernel, Or.inl (mm_mem 781 (by decide +kernel) (by decide +kernel))⟩, fun h => absurd h (by decide), fun _ => ⟨mi_101, me_101⟩, fun h => absurd h (by decide), fun h => absurd h (by decide)⟩
theorem mtp_7_9 : mm_MTp (7, 9, 112, 1, 0) := ⟨by decide, fun _ => ⟨by decide +kernel, Or.inl (mm_mem 211 (by decide +kernel) (by decide +kernel))⟩, fun _ => ms_112, fun h => absurd h (by decide), fun h => absurd h (by decide), fun h => absurd h (by decide)⟩
theorem mtp_7_13 : mm_MTp (7, 13, 113, 1, 0) := ⟨by decide, fun _ => ⟨by decide +kernel, Or.inl (mm_mem 214 (by decide +kernel) (by decide +kernel))⟩, fun _ => ms_113, fun h => absurd h (by decide), fun h => absurd h (by decide), fun h => absurd h (by decide)⟩
theorem mtp_7_16 : mm_MTp (7, 16, 114, 1, 0) := ⟨by decide, fun _ => ⟨by decide +kernel, Or.inl (mm_mem 246 (by decide +kernel) (by decide +kernel))⟩, fun _ => ms_114, fun h => absurd h (by decide), fun h => absurd h (by decide), fun h => absurd h (by decide)⟩
theorem mtp_7_19 : mm_MTp (7, 19, 115, 1, 0) := ⟨by decide, fun _ => ⟨by decide +kernel, Or.inl (mm_mem 243 (by decide +kernel) (by decide +kernel))⟩, fun _ => ms_115, fun h => absurd h (by decide), fun h => absurd h (by decide), fun h => absurd h (by decide)⟩
theorem mtp_7_26 : mm_MTp (7, 26, 117, 1, 0) := ⟨by decide, fun _ => ⟨by decide +kernel, Or.inl (mm_mem 326 (by decide +kernel) (by decide +kernel))⟩, fun _ => ms_117, fun h => absurd h (by decide), fun h => absurd h (by decide), fun h => absurd h (by decide)⟩
theorem mtp_7_30 : mm_MTp (7, 30, 118, 1, 0) := ⟨by decide, fun _ => ⟨by decide +kernel, Or.inl (mm_mem 330 (by decide +kernel) (by decide +kernel))⟩, fun _ => ms_118, fun h => absurd h (by decide), fun h => absurd h (by decide), fun h => absurd h (by decide)⟩
theorem mtp_8_11 : mm_MTp (8, 11, 122, 2, 0) := ⟨by decide, fun _ => ⟨by decide +kernel, Or.inl (mm_mem 384 (by decide +kernel) (by decide +kernel))⟩, fun _ => ms_122, fun h => absurd h (by decide), fun h => absurd h (by decide), fun h => absurd h (by decide)⟩
theorem mtp_8_19 : mm_MTp (8, 19, 123, 2, 0) := ⟨by decide, fun _ => ⟨by decide +kernel, Or.inl (mm_mem 390 (by decide +kernel) (by decide +kernel))⟩, fun _ => ms_123, fun h => absurd h (by decide), fun h => absurd h (by decide), fun h => absurd h (by decide)⟩
theorem mtp_8_22 : mm_MTp (8, 22, 124, 2, 0) := ⟨by decide, fun _ => ⟨by decide +kernel, Or.inl (mm_mem 394 (by decide +kernel) (by decide +kernel))⟩, fun _ => ms_124, fun h => absurd h (by decide), fun h => absurd h (by decide), fun h => absurd h (by decide)⟩
theorem mtp_8_25 : mm_MTp (8, 25, 119, 2, 0) := ⟨by decide, fun _ => ⟨by decide +kernel, Or.inr ⟨"StagedCompiler", List.mem_of_getElem? (i := 39) (by decide +kernel)⟩⟩, fun _ => ms_119, fun h => absurd h (by decide), fun h => absurd h (by decide), fun h => absurd h (by decide)⟩
theorem mtp_8_39 : mm_MTp (8, 39, 117, 1, 0) := ⟨by decide, fun _ => ⟨by decide +kernel, Or.inr ⟨"StagedCompiler", List.mem_of_getElem? (i := 40) (by decide +kernel)⟩⟩, fun _ => ms_117, fun h => absurd h (by decide), fun h => absurd h (by decide), fun h => absurd h (by decide)⟩
theorem mtp_8_43 : mm_MTp (8, 43, 118, 1, 0) := ⟨by decide, fun _ => ⟨by decide +kernel, Or.inr ⟨"StagedCompiler", List.mem_of_getElem? (i := 41) (by decide +kernel)⟩⟩, fun _ => ms_118, fun h => absurd h (by decide), fun h => absurd h (by decide), fun h => absurd h (by decide)⟩
theorem mtp_9_9 : mm_MTp (9, 9, 0, 0, 2) := ⟨by decide, fun _ => ⟨by decide +kernel, Or.inl (mm_mem 13 (by decide +kernel) (by decide +kernel))⟩, fun h => absurd h (by decide), fun h => absurd h (by decide), fun _ => ⟨rfl, mi_0, rfl⟩, fun h => absurd h (by decide)⟩
theorem mtp_9_12 : mm_MTp (9, 12, 5, 0, 2) := ⟨by decide, fun _ => ⟨by decide +kernel, Or.inl (mm_mem 497 (by decide +kernel) (by decide +kernel))⟩, fun h => absurd h (by decide), fun h => absurd h (by decide), fun _ => ⟨rfl, mi_5, rfl⟩, fun h => absurd h (by decide)⟩
theorem mtp_9_13 : mm_MTp (9, 13, 8, 4, 1) := ⟨by decide, fun _ => ⟨by decide +kernel, Or.inl (mm_mem 189 (by decide +kernel) (by decide +kernel))⟩, fun h => absurd h (by decide), fun _ => ⟨mi_8, me_8⟩, fun h => absurd h (by decide), fun h => absurd h (by decide)⟩
theorem mtp_9_17 : mm_MTp (9, 17, 68, 4, 1) := ⟨by decide, fun _ => ⟨by decide +kernel, Or.inl (mm_mem 613 (by decide +kernel) (by decide +kernel))⟩, fun h => absurd h (by decide), fun _ => ⟨mi_68, me_68⟩, fun h => absurd h (by decide), fun h => absurd h (by decide)⟩
theorem mtp_9_18 : mm_MTp (9, 18, 9, 5, 1) := ⟨by decide, fun _ => ⟨by decide +kernel, Or.inl (mm_mem 232 (by decide +kernel) (by decide +kernel))⟩, fun h => absurd h (by decide), fun _ => ⟨mi_9, me_9⟩, fun h => absurd h (by decide), fun h => absurd h (by decide)⟩
theorem mtp_9_22 : mm_MTp (9, 22, 69, 5, 1) := ⟨by decide, fun _ => ⟨by decide +kernel, Or.inl (mm_mem 637 (by decide +kernel) (by decide +kernel))⟩, fun h => absurd h (by decide), fun _ => ⟨mi_69, me_69⟩, fun h => absurd h (by decide), fun h => absurd h (by decide)⟩
theorem mtp_9_23 : mm_MTp (9, 23, 10, 3, 1) := ⟨by decide, fun _ => ⟨by decide +kernel, Or.inl (mm_mem 248 (by decide +kernel) (by decide +kernel))⟩, fun h => absurd h (by decide), fun _ => ⟨mi_10, me_10⟩, fun h => absurd h (by decide), fun h => absurd h (by decide)⟩
theorem mtp_9_27 : mm_MTp (9, 27, 91, 3, 1) := ⟨by decide, fun _ => ⟨by decide +kernel, Or.inl (mm_mem 645 (by decide +kernel) (by decide +kernel))⟩, fun h => absurd h (by decide), fun _ => ⟨mi_91, me_91⟩, fun h => absurd h (by decide), fun h => absurd h (by decide)⟩
theorem mtp_9_28 : mm_MTp (9, 28, 11, 0, 1) := ⟨by decide, fun _ => ⟨by decide +kernel, Or.inl (mm_mem 410 (by decide +kernel) (by decide +kernel))⟩, fun h => absurd h (by decide), fun _ => ⟨mi_11, me_11⟩, fun h => absurd h (by decide), fun h => absurd h (by decide)⟩
theorem mtp_9_32 : mm_MTp (9, 32, 92, 0, 1) := ⟨by decide, fun _ => ⟨by decide +kernel, Or.inl (mm_mem 738 (by decide +kernel) (by decide +kernel))⟩, fun h => absurd h (by decide), fun _ => ⟨mi_92, me_92⟩, fun h => absurd h (by decide), fun h => absurd h (by decide)⟩
theorem mtp_9_33 : mm_MTp (9, 33, 12, 1, 1) := ⟨by decide, fun _ => ⟨by decide +kernel, Or.inl (mm_mem 414 (by decide +kernel) (by decide +kernel))⟩, fun h => absurd h (by decide), fun _ => ⟨mi_12, me_12⟩, fun h => absurd h (by decide), fun h => absurd h (by decide)⟩
theorem mtp_9_37 : mm_MTp (9, 37, 102, 1, 1) := ⟨by decide, fun _ => ⟨by decide +kernel, Or.inl (mm_mem 777 (by decide +kernel) (by decide +kernel))⟩, fun h => absurd h (by decide), fun _ => ⟨mi_102, me_102⟩, fun h => absurd h (by decide), fun h => absurd h (by decide)⟩
theorem mtp_9_38 : mm_MTp (9, 38, 13, 2, 1) := ⟨by decide, fun _ => ⟨by decide +kernel, Or.inl (mm_mem 422 (by decide +kernel) (by decide +kernel))⟩, fun h => absurd h (by decide), fun _ => ⟨mi_13, me_13⟩, fun h => absurd h (by decide), fun h => absurd h (by decide)⟩
theorem mtp_9_42 : mm_MTp (9, 42, 103, 2, 1) := ⟨by decide, fun _ => ⟨by decide +kernel, Or.inl (mm_mem 785 (by decide +kernel) (by decide +kernel))⟩, fun h => absurd h (by decide), fun _ => ⟨mi_103, me_103⟩, fun h => absurd h (by decide), fun h => absurd h (by decide)⟩
theorem mtp_9_43 : mm_MTp (9, 43, 14, 2, 1) := ⟨by decide, fun _ => ⟨by decide +kernel, Or.inl (mm_mem 427 (by decide +kernel) (by decide +kernel))⟩, fun h => absurd h (by decide), fun _ => ⟨mi_14, me_14⟩, fun h => absurd h (by decide), fun h => absurd h (by decide)⟩
theorem mtp_9_47 : mm_MTp (9, 47, 104, 2, 1) := ⟨by decide, fun _ => ⟨by decide +kernel, Or.inl (mm_mem 789 (by decide +kernel) (by decide +kernel))⟩, fun h => absurd h (by decide), fun _ => ⟨mi_104, me_104⟩, fun h => absurd h (by decide), fun h => absurd h (by decide)⟩
theorem mtp_9_48 : mm_MTp (9, 48, 15, 2, 1) := ⟨by decide, fun _ => ⟨by decide +kernel, Or.inl (mm_mem 432 (by decide +kernel) (by decide +kernel))⟩, fun h => absurd h (by decide), fun _ => ⟨mi_15, me_15⟩, fun h => absurd h (by decide), fun h => absurd h (by decide)⟩
theorem mtp_9_51 : mm_MTp (9, 51, 105, 2, 1) := ⟨by decide, fun _ => ⟨by decide +kernel, Or.inl (mm_mem 793 (by decide +kernel) (by decide +kernel))⟩, fun h => absurd h (by decide), fun _ => ⟨mi_105, me_105⟩, fun h => absurd h (by decide), fun h => absurd h (by decide)⟩
theorem mtp_9_52 : mm_MTp (9, 52, 16, 1, 1) := ⟨by decide, fun _ => ⟨by decide +kernel, Or.inl (mm_mem 436 (by decide +kernel) (by decide +kernel))⟩, fun h => absurd h (by decide), fun _ => ⟨mi_16, me_16⟩, fun h => absurd h (by decide), fun h => absurd h (by decide)⟩
theorem mtp_9_55 : mm_MTp (9, 55, 106, 1, 1) := ⟨by decide, fun _ => ⟨by decide +kernel, Or.inl (mm_mem 797 (by decide +kernel) (by decide +kernel))⟩, fun h => absurd h (by decide), fun _ => ⟨mi_106, me_106⟩, fun h => absurd h (by decide), fun h => absurd h (by decide)⟩
theorem mtp_9_56 : mm_MTp (9, 56, 17, 3, 1) := ⟨by decide, fun _ => ⟨by decide +kernel, Or.inl (mm_mem 448 (by decide +kernel) (by decide +kernel))⟩, fun h => absurd h (by decide), fun _ => ⟨mi_17, me_17⟩, fun h => absurd h (by decide), fun h => absurd h (by decide)⟩
theorem mtp_9_60 : mm_MTp (9, 60, 100, 3, 1) := ⟨by decide, fun _ => ⟨by decide +kernel, Or.inl (mm_mem 742 (by decide +kernel) (by decide +kernel))⟩, fun h => absurd h (by decide), fun _ => ⟨mi_100, me_100⟩, fun h => absurd h (by decide), fun h => absurd h (by decide)⟩
theorem mtp_9_61 : mm_MTp (9, 61, 18, 1, 1) := ⟨by decide, fun _ => ⟨by decide +kernel, Or.inl (mm_mem 491 (by decide +kernel) (by decide +kernel))⟩, fun h => absurd h (by decide), fun _ => ⟨mi_18, me_18⟩, fun h => absurd h (by decide), fun h => absurd h (by decide)⟩
theorem mtp_9_64 : mm_MTp (9, 64, 107, 1, 1) := ⟨by decide, fun _ => ⟨by decide +kernel, Or.inl (mm_mem 801 (by decide +kernel) (by decide +kernel))⟩, fun h => absurd h (by decide), fun _ => ⟨mi_107, me_107⟩, fun h => absurd h (by decide), fun h => absurd h (by decide)⟩
theorem mtp_g0 : ∀ q ∈ ([(0, 1, 7, 0, 3), (0, 9, 1, 0, 2), (0, 12, 2, 1, 2), (0, 31, 4, 2, 2), (1, 3, 7, 0, 3), (2, 3, 7, 0, 3), (2, 21, 3, 0, 2), (3, 3, 7, 0, 3), (4, 3, 7, 0, 3), (5, 1, 7, 0, 3), (0, 38, 21, 4, 1), (0, 42, 26, 5, 1), (0, 46, 20, 1, 1), (0, 50, 29, 3, 1), (0, 58, 28, 1, 1), (0, 78, 19, 1, 1), (0, 91, 27, 1, 1), (0, 95, 51, 2, 1), (0, 99, 56, 3, 1), (1, 50, 108, 1, 0), (1, 56, 22, 4, 1), (1, 60, 24, 4, 1), (1, 64, 19, 1, 1), (1, 67, 114, 1, 0), (1, 72, 23, 1, 1)] : List (Nat × Nat × Nat × Nat × Nat)), mm_MTp q := List.forall_mem_cons.mpr ⟨mtp_0_1, List.forall_mem_cons.mpr ⟨mtp_0_9, List.forall_mem_cons.mpr ⟨mtp_0_12, List.forall_mem_cons.mpr ⟨mtp_0_31, List.forall_mem_cons.mpr ⟨mtp_1_3, List.forall_mem_cons.mpr ⟨mtp_2_3, List.forall_mem_cons.mpr ⟨mtp_2_21, List.forall_mem_cons.mpr ⟨mtp_3_3, List.forall_mem_cons.mpr ⟨mtp_4_3, List.forall_mem_cons.mpr ⟨mtp_5_1, List.forall_mem_cons.mpr ⟨mtp_0_38, List.forall_mem_cons.mpr ⟨mtp_0_42, List.forall_mem_cons.mpr ⟨mtp_0_46, List.forall_mem_cons.mpr ⟨mtp_0_50, List.forall_mem_cons.mpr ⟨mtp_0_58, List.forall_mem_cons.mpr ⟨mtp_0_78, List.forall_mem_cons.mpr ⟨mtp_0_91, List.forall_mem_cons.mpr ⟨mtp_0_95, List.forall_mem_cons.mpr ⟨mtp_0_99, List.forall_mem_cons.mpr ⟨mtp_1_50, List.forall_mem_cons.mpr ⟨mtp_1_56, List.forall_mem_cons.mpr ⟨mtp_1_60, List.forall_mem_cons.mpr ⟨mtp_1_64, List.forall_mem_cons.mpr ⟨mtp_1_67, List.forall_mem_cons.mpr ⟨mtp_1_72, fun _ h => absurd h List.not_mem_nil⟩⟩⟩⟩⟩⟩⟩⟩⟩⟩⟩⟩⟩⟩⟩⟩⟩⟩⟩⟩⟩⟩⟩⟩⟩
theorem mtp_g1 : ∀ q ∈ ([(1, 81, 25, 1, 1), (1, 85, 116, 1, 0), (1, 88, 115, 1, 0), (1, 91, 111, 1, 0), (1, 94, 52, 1, 1), (2, 32, 31, 3, 1), (2, 36, 30, 3, 1), (2, 49, 33, 2, 1), (2, 56, 32, 4, 1), (2, 60, 48, 3, 1), (2, 64, 46, 4, 1), (2, 73, 112, 1, 0), (2, 81, 119, 2, 0), (2, 85, 52, 1, 1), (2, 94, 54, 3, 1), (2, 98, 34, 2, 1), (2, 101, 38, 2, 1), (2, 104, 39, 2, 1), (2, 107, 40, 2, 1), (2, 110, 45, 2, 1), (2, 113, 35, 2, 1), (2, 122, 53, 2, 1), (2, 129, 36, 4, 1), (2, 132, 37, 3, 1), (2, 138, 109, 1, 0)] : List (Nat × Nat × Nat × Nat × Nat)), mm_MTp q := List.forall_mem_cons.mpr ⟨mtp_1_81, List.forall_mem_cons.mpr ⟨mtp_1_85, List.forall_mem_cons.mpr ⟨mtp_1_88, List.forall_mem_cons.mpr ⟨mtp_1_91, List.forall_mem_cons.mpr ⟨mtp_1_94, List.forall_mem_cons.mpr ⟨mtp_2_32, List.forall_mem_cons.mpr ⟨mtp_2_36, List.forall_mem_cons.mpr ⟨mtp_2_49, List.forall_mem_cons.mpr ⟨mtp_2_56, List.forall_mem_cons.mpr ⟨mtp_2_60, List.forall_mem_cons.mpr ⟨mtp_2_64, List.forall_mem_cons.mpr ⟨mtp_2_73, List.forall_mem_cons.mpr ⟨mtp_2_81, List.forall_mem_cons.mpr ⟨mtp_2_85, List.forall_mem_cons.mpr ⟨mtp_2_94, List.forall_mem_cons.mpr ⟨mtp_2_98, List.forall_mem_cons.mpr ⟨mtp_2_101, List.forall_mem_cons.mpr ⟨mtp_2_104, List.forall_mem_cons.mpr ⟨mtp_2_107, List.forall_mem_cons.mpr ⟨mtp_2_110, List.forall_mem_cons.mpr ⟨mtp_2_113, List.forall_mem_cons.mpr ⟨mtp_2_122, List.forall_mem_cons.mpr ⟨mtp_2_129, List.forall_mem_cons.mpr ⟨mtp_2_132, List.forall_mem_cons.mpr ⟨mtp_2_138, fun _ h => absurd h List.not_mem_nil⟩⟩⟩⟩⟩⟩⟩⟩⟩⟩⟩⟩⟩⟩⟩⟩⟩⟩⟩⟩⟩⟩⟩⟩⟩
theorem mtp_g2 : ∀ q ∈ ([(2, 141, 110, 1, 0), (2, 148, 121, 4, 0), (2, 154, 120, 1, 0), (2, 163, 55, 2, 1), (2, 166, 47, 1, 1), (2, 170, 20, 1, 1), (2, 176, 41, 2, 1), (2, 182, 42, 3, 1), (2, 186, 43, 2, 1), (2, 190, 44, 4, 1), (3, 49, 47, 1, 1), (3, 56, 113, 1, 0), (3, 62, 49, 2, 1), (3, 66, 50, 1, 1), (3, 69, 119, 2, 0), (4, 37, 57, 5, 1), (4, 57, 59, 5, 1), (4, 60, 60, 5, 1), (4, 63, 61, 5, 1), (4, 66, 58, 5, 1), (4, 69, 120, 1, 0), (4, 81, 121, 4, 0), (4, 88, 122, 2, 0), (4, 97, 50, 1, 1), (5, 125, 62, 1, 1)] : List (Nat × Nat × Nat × Nat × Nat)), mm_MTp q := List.forall_mem_cons.mpr ⟨mtp_2_141, List.forall_mem_cons.mpr ⟨mtp_2_148, List.forall_mem_cons.mpr ⟨mtp_2_154, List.forall_mem_cons.mpr ⟨mtp_2_163, List.forall_mem_cons.mpr ⟨mtp_2_166, List.forall_mem_cons.mpr ⟨mtp_2_170, List.forall_mem_cons.mpr ⟨mtp_2_176, List.forall_mem_cons.mpr ⟨mtp_2_182, List.forall_mem_cons.mpr ⟨mtp_2_186, List.forall_mem_cons.mpr ⟨mtp_2_190, List.forall_mem_cons.mpr ⟨mtp_3_49, List.forall_mem_cons.mpr ⟨mtp_3_56, List.forall_mem_cons.mpr ⟨mtp_3_62, List.forall_mem_cons.mpr ⟨mtp_3_66, List.forall_mem_cons.mpr ⟨mtp_3_69, List.forall_mem_cons.mpr ⟨mtp_4_37, List.forall_mem_cons.mpr ⟨mtp_4_57, List.forall_mem_cons.mpr ⟨mtp_4_60, List.forall_mem_cons.mpr ⟨mtp_4_63, List.forall_mem_cons.mpr ⟨mtp_4_66, List.forall_mem_cons.mpr ⟨mtp_4_69, List.forall_mem_cons.mpr ⟨mtp_4_81, List.forall_mem_cons.mpr ⟨mtp_4_88, List.forall_mem_cons.mpr ⟨mtp_4_97, List.forall_mem_cons.mpr ⟨mtp_5_125, fun _ h => absurd h List.not_mem_nil⟩⟩⟩⟩⟩⟩⟩⟩⟩⟩⟩⟩⟩⟩⟩⟩⟩⟩⟩⟩⟩⟩⟩⟩⟩
theorem mtp_g3 : ∀ q ∈ ([(5, 129, 63, 1, 1), (5, 132, 66, 1, 1), (5, 136, 65, 1, 1), (5, 139, 67, 3, 1), (5, 143, 64, 1, 1), (5, 152, 72, 1, 1), (5, 156, 73, 1, 1), (5, 159, 77, 1, 1), (5, 162, 75, 3, 1), (5, 165, 71, 1, 1), (5, 168, 74, 2, 1), (5, 176, 80, 4, 1), (5, 180, 81, 4, 1), (5, 184, 79, 5, 1), (5, 188, 70, 2, 1), (5, 192, 86, 4, 1), (5, 196, 85, 5, 1), (5, 200, 87, 4, 1), (5, 204, 76, 2, 1), (5, 207, 82, 2, 1), (5, 211, 83, 2, 1), (5, 214, 84, 2, 1), (5, 217, 88, 2, 1), (5, 220, 78, 2, 1), (5, 223, 89, 2, 1)] : List (Nat × Nat × Nat × Nat × Nat)), mm_MTp q := List.forall_mem_cons.mpr ⟨mtp_5_129, List.forall_mem_cons.mpr ⟨mtp_5_132, List.forall_mem_cons.mpr ⟨mtp_5_136, List.forall_mem_cons.mpr ⟨mtp_5_139, List.forall_mem_cons.mpr ⟨mtp_5_143, List.forall_mem_cons.mpr ⟨mtp_5_152, List.forall_mem_cons.mpr ⟨mtp_5_156, List.forall_mem_cons.mpr ⟨mtp_5_159, List.forall_mem_cons.mpr ⟨mtp_5_162, List.forall_mem_cons.mpr ⟨mtp_5_165, List.forall_mem_cons.mpr ⟨mtp_5_168, List.forall_mem_cons.mpr ⟨mtp_5_176, List.forall_mem_cons.mpr ⟨mtp_5_180, List.forall_mem_cons.mpr ⟨mtp_5_184, List.forall_mem_cons.mpr ⟨mtp_5_188, List.forall_mem_cons.mpr ⟨mtp_5_192, List.forall_mem_cons.mpr ⟨mtp_5_196, List.forall_mem_cons.mpr ⟨mtp_5_200, List.forall_mem_cons.mpr ⟨mtp_5_204, List.forall_mem_cons.mpr ⟨mtp_5_207, List.forall_mem_cons.mpr ⟨mtp_5_211, List.forall_mem_cons.mpr ⟨mtp_5_214, List.forall_mem_cons.mpr ⟨mtp_5_217, List.forall_mem_cons.mpr ⟨mtp_5_220, List.forall_mem_cons.mpr ⟨mtp_5_223, fun _ h => absurd h List.not_mem_nil⟩⟩⟩⟩⟩⟩⟩⟩⟩⟩⟩⟩⟩⟩⟩⟩⟩⟩⟩⟩⟩⟩⟩⟩⟩
theorem mtp_g4 : ∀ q ∈ ([(5, 226, 90, 1, 1), (5, 232, 93, 1, 1), (5, 235, 94, 1, 1), (5, 241, 99, 3, 1), (5, 247, 95, 1, 1), (5, 250, 96, 1, 1), (5, 253, 97, 1, 1), (5, 256, 98, 1, 1), (5, 259, 101, 1, 1), (7, 9, 112, 1, 0), (7, 13, 113, 1, 0), (7, 16, 114, 1, 0), (7, 19, 115, 1, 0), (7, 26, 117, 1, 0), (7, 30, 118, 1, 0), (8, 11, 122, 2, 0), (8, 19, 123, 2, 0), (8, 22, 124, 2, 0), (8, 25, 119, 2, 0), (8, 39, 117, 1, 0), (8, 43, 118, 1, 0), (9, 9, 0, 0, 2), (9, 12, 5, 0, 2), (9, 13, 8, 4, 1), (9, 17, 68, 4, 1)] : List (Nat × Nat × Nat × Nat × Nat)), mm_MTp q := List.forall_mem_cons.mpr ⟨mtp_5_226, List.forall_mem_cons.mpr ⟨mtp_5_232, List.forall_mem_cons.mpr ⟨mtp_5_235, List.forall_mem_cons.mpr ⟨mtp_5_241, List.forall_mem_cons.mpr ⟨mtp_5_247, List.forall_mem_cons.mpr ⟨mtp_5_250, List.forall_mem_cons.mpr ⟨mtp_5_253, List.forall_mem_cons.mpr ⟨mtp_5_256, List.forall_mem_cons.mpr ⟨mtp_5_259, List.forall_mem_cons.mpr ⟨mtp_7_9, List.forall_mem_cons.mpr ⟨mtp_7_13, List.forall_mem_cons.mpr ⟨mtp_7_16, List.forall_mem_cons.mpr ⟨mtp_7_19, List.forall_mem_cons.mpr ⟨mtp_7_26, List.forall_mem_cons.mpr ⟨mtp_7_30, List.forall_mem_cons.mpr ⟨mtp_8_11, List.forall_mem_cons.mpr ⟨mtp_8_19, List.forall_mem_cons.mpr ⟨mtp_8_22, List.forall_mem_cons.mpr ⟨mtp_8_25, List.forall_mem_cons.mpr ⟨mtp_8_39, List.forall_mem_cons.mpr ⟨mtp_8_43, List.forall_mem_cons.mpr ⟨mtp_9_9, List.forall_mem_cons.mpr ⟨mtp_9_12, List.forall_mem_cons.mpr ⟨mtp_9_13, List.forall_mem_cons.mpr ⟨mtp_9_17, fun _ h => absurd h List.not_mem_nil⟩⟩⟩⟩⟩⟩⟩⟩⟩⟩⟩⟩⟩⟩⟩⟩⟩⟩⟩⟩⟩⟩⟩⟩⟩
theorem mtp_g5 : ∀ q ∈ ([(9, 18, 9, 5, 1), (9, 22, 69, 5, 1), (9, 23, 10, 3, 1), (9, 27, 91, 3, 1), (9, 28, 11, 0, 1), (9, 32, 92, 0, 1), (9, 33, 12, 1, 1), (9, 37, 102, 1, 1), (9, 38, 13, 2, 1), (9, 42, 103, 2, 1), (9, 43, 14, 2, 1), (9, 47, 104, 2, 1), (9, 48, 15, 2, 1), (9, 51, 105, 2, 1), (9, 52, 16, 1, 1), (9, 55, 106, 1, 1), (9, 56, 17, 3, 1), (9, 60, 100, 3, 1), (9, 61, 18, 1, 1), (9, 64, 107, 1, 1)] : List (Nat × Nat × Nat × Nat × Nat)), mm_MTp q := List.forall_mem_cons.mpr ⟨mtp_9_18, List.forall_mem_cons.mpr ⟨mtp_9_22, List.forall_mem_cons.mpr ⟨mtp_9_23, List.forall_mem_cons.mpr ⟨mtp_9_27, List.forall_mem_cons.mpr ⟨mtp_9_28, List.forall_mem_cons.mpr ⟨mtp_9_32, List.forall_mem_cons.mpr ⟨mtp_9_33, List.forall_mem_cons.mpr ⟨mtp_9_37, List.forall_mem_cons.mpr ⟨mtp_9_38, List.forall_mem_cons.mpr ⟨mtp_9_42, List.forall_mem_cons.mpr ⟨mtp_9_43, List.forall_mem_cons.mpr ⟨mtp_9_47, List.forall_mem_cons.mpr ⟨mtp_9_48, List.forall_mem_cons.mpr ⟨mtp_9_51, List.forall_mem_cons.mpr ⟨mtp_9_52, List.forall_mem_cons.mpr ⟨mtp_9_55, List.forall_mem_cons.mpr ⟨mtp_9_56, List.forall_mem_cons.mpr ⟨mtp_9_60, List.forall_mem_cons.mpr ⟨mtp_9_61, List.forall_mem_cons.mpr ⟨mtp_9_64, fun _ h => absurd h List.not_mem_nil⟩⟩⟩⟩⟩⟩⟩⟩⟩⟩⟩⟩⟩⟩⟩⟩⟩⟩⟩⟩
theorem mtp_all : ∀ q ∈ mm_MTs, mm_MTp q := by
  intro q hq
  have e : mm_MTs = ([(0, 1, 7, 0, 3), (0, 9, 1, 0, 2), (0, 12, 2, 1, 2), (0, 31, 4, 2, 2), (1, 3, 7, 0, 3), (2, 3, 7, 0, 3), (2, 21, 3, 0, 2), (3, 3, 7, 0, 3), (4, 3, 7, 0, 3), (5, 1, 7, 0, 3), (0, 38, 21, 4, 1), (0, 42, 26, 5, 1), (0, 46, 20, 1, 1), (0, 50, 29, 3, 1), (0, 58, 28, 1, 1), (0, 78, 19, 1, 1), (0, 91, 27, 1, 1), (0, 95, 51, 2, 1), (0, 99, 56, 3, 1), (1, 50, 108, 1, 0), (1, 56, 22, 4, 1), (1, 60, 24, 4, 1), (1, 64, 19, 1, 1), (1, 67, 114, 1, 0), (1, 72, 23, 1, 1)] : List (Nat × Nat × Nat × Nat × Nat)) ++ (([(1, 81, 25, 1, 1), (1, 85, 116, 1, 0), (1, 88, 115, 1, 0), (1, 91, 111, 1, 0), (1, 94, 52, 1, 1), (2, 32, 31, 3, 1), (2, 36, 30, 3, 1), (2, 49, 33, 2, 1), (2, 56, 32, 4, 1), (2, 60, 48, 3, 1), (2, 64, 46, 4, 1), (2, 73, 112, 1, 0), (2, 81, 119, 2, 0), (2, 85, 52, 1, 1), (2, 94, 54, 3, 1), (2, 98, 34, 2, 1), (2, 101, 38, 2, 1), (2, 104, 39, 2, 1), (2, 107, 40, 2, 1), (2, 110, 45, 2, 1), (2, 113, 35, 2, 1), (2, 122, 53, 2, 1), (2, 129, 36, 4, 1), (2, 132, 37, 3, 1), (2, 138, 109, 1, 0)] : List (Nat × Nat × Nat × Nat × Nat)) ++ (([(2, 141, 110, 1, 0), (2, 148, 121, 4, 0), (2, 154, 120, 1, 0), (2, 163, 55, 2, 1), (2, 166, 47, 1, 1), (2, 170, 20, 1, 1), (2, 176, 41, 2, 1), (2, 182, 42, 3, 1), (2, 186, 43, 2, 1), (2, 190, 44, 4, 1), (3, 49, 47, 1, 1), (3, 56, 113, 1, 0), (3, 62, 49, 2, 1), (3, 66, 50, 1, 1), (3, 69, 119, 2, 0), (4, 37, 57, 5, 1), (4, 57, 59, 5, 1), (4, 60, 60, 5, 1), (4, 63, 61, 5, 1), (4, 66, 58, 5, 1), (4, 69, 120, 1, 0), (4, 81, 121, 4, 0), (4, 88, 122, 2, 0), (4, 97, 50, 1, 1), (5, 125, 62, 1, 1)] : List (Nat × Nat × Nat × Nat × Nat)) ++ (([(5, 129, 63, 1, 1), (5, 132, 66, 1, 1), (5, 136, 65, 1, 1), (5, 139, 67, 3, 1), (5, 143, 64, 1, 1), (5, 152, 72, 1, 1), (5, 156, 73, 1, 1), (5, 159, 77, 1, 1), (5, 162, 75, 3, 1), (5, 165, 71, 1, 1), (5, 168, 74, 2, 1), (5, 176, 80, 4, 1), (5, 180, 81, 4, 1), (5, 184, 79, 5, 1), (5, 188, 70, 2, 1), (5, 192, 86, 4, 1), (5, 196, 85, 5, 1), (5, 200, 87, 4, 1), (5, 204, 76, 2, 1), (5, 207, 82, 2, 1), (5, 211, 83, 2, 1), (5, 214, 84, 2, 1), (5, 217, 88, 2, 1), (5, 220, 78, 2, 1), (5, 223, 89, 2, 1)] : List (Nat × Nat × Nat × Nat × Nat)) ++ (([(5, 226, 90, 1, 1), (5, 232, 93, 1, 1), (5, 235, 94, 1, 1), (5, 241, 99, 3, 1), (5, 247, 95, 1, 1), (5, 250, 96, 1, 1), (5, 253, 97, 1, 1), (5, 256, 98, 1, 1), (5, 259, 101, 1, 1), (7, 9, 112, 1, 0), (7, 13, 113, 1, 0), (7, 16, 114, 1, 0), (7, 19, 115, 1, 0), (7, 26, 117, 1, 0), (7, 30, 118, 1, 0), (8, 11, 122, 2, 0), (8, 19, 123, 2, 0), (8, 22, 124, 2, 0), (8, 25, 119, 2, 0), (8, 39, 117, 1, 0), (8, 43, 118, 1, 0), (9, 9, 0, 0, 2), (9, 12, 5, 0, 2), (9, 13, 8, 4, 1), (9, 17, 68, 4, 1)] : List (Nat × Nat × Nat × Nat × Nat)) ++ (([(9, 18, 9, 5, 1), (9, 22, 69, 5, 1), (9, 23, 10, 3, 1), (9, 27, 91, 3, 1), (9, 28, 11, 0, 1), (9, 32, 92, 0, 1), (9, 33, 12, 1, 1), (9, 37, 102, 1, 1), (9, 38, 13, 2, 1), (9, 42, 103, 2, 1), (9, 43, 14, 2, 1), (9, 47, 104, 2, 1), (9, 48, 15, 2, 1), (9, 51, 105, 2, 1), (9, 52, 16, 1, 1), (9, 55, 106, 1, 1), (9, 56, 17, 3, 1), (9, 60, 100, 3, 1), (9, 61, 18, 1, 1), (9, 64, 107, 1, 1)] : List (Nat × Nat × Nat × Nat × Nat))))))) := rfl
  rw [e] at hq
  rcases List.mem_append.mp hq with hq | hq
  · exact mtp_g0 q hq
  rcases List.mem_append.mp hq with hq | hq
  · exact mtp_g1 q hq
  rcases List.mem_append.mp hq with hq | hq
  · exact mtp_g2 q hq
  rcases List.mem_append.mp hq with hq | hq
  · exact mtp_g3 q hq
  rcases List.mem_append.mp hq with hq | hq
  · exact mtp_g4 q hq
  exact mtp_g5 q hq
theorem mm_MTok {o ix id n kd : Nat} (h : mm_MT o ix = some (id, n, kd)) (h3 : kd ≠ 3) : Cond.code (mm_y id) (mm_cc id) (mm_ml id) (mm_rt id) ∈ mm_T ∧ Cond.initialized (mm_y id).cls ∈ mm_T ∧ ((mm_y id).cls ≠ "java/lang/invoke/MethodHandle" ∧ (mm_y id).cls ≠ "java/lang/invoke/VarHandle" ∧ (parseMethodDescriptor (mm_y id).desc).map (fun d => d.parameters.length) = some n) ∧ (Cond.methodLink (mm_own o) ix (mm_y id) ∈ mm_T ∨ ∃ ho, (mm_own o, ix, mm_y id, ho) ∈ mm_nM) ∧ (kd = 0 → Cond.static (mm_y id) ∈ mm_T) ∧ (kd = 1 → Cond.instanceMethod (mm_y id) ∈ mm_T ∧ Cond.selects (mm_nm (mm_mk id)) (mm_y id) (mm_y id) ∈ mm_T) ∧ (kd = 2 → (mm_y id).name = "<init>" ∧ Cond.instanceMethod (mm_y id) ∈ mm_T ∧ mm_rt id = none) := by
  obtain ⟨h1, h2, h4, h5, h6, -⟩ := mtp_all (o, ix, id, n, kd) (mm_findI h)
  obtain ⟨-, -, -, a1, a2, a3⟩ := mm_idp id h1
  obtain ⟨b1, b2⟩ := h2 h3
  exact ⟨a1, a2, ⟨a3.1, a3.2, b1⟩, b2, h4, h5, h6⟩
theorem mm_MT3 {o ix id n kd : Nat} (h : mm_MT o ix = some (id, n, kd)) (h3 : kd = 3) : Cond.methodLink (mm_own o) ix Lib.objectInit ∈ mm_T ∧ Cond.instanceMethod Lib.objectInit ∈ mm_T ∧ Cond.code Lib.objectInit ⟨#[0xb1]⟩ 1 none ∈ mm_T := ⟨(mtp_all (o, ix, id, n, kd) (mm_findI h)).2.2.2.2.2 h3, (mm_mem 17 (by decide +kernel) (by decide +kernel)), (mm_mem 18 (by decide +kernel) (by decide +kernel))⟩
def mm_nFp (q : String × Nat × String × String × String × String) : Prop := Cond.fieldLinkNest q.1 q.2.1 q.2.2.1 q.2.2.2.1 q.2.2.2.2.1 q.2.2.2.2.2 ∈ tables_1
theorem nfp_0 : mm_nFp ("StagedCompiler", 27, "StagedCompiler$Compilation", "instances", "[LStagedCompiler$Instance;", "StagedCompiler") := List.mem_of_getElem? (i := 142) (by decide +kernel)
theorem nfp_1 : mm_nFp ("StagedCompiler", 54, "StagedCompiler$Compilation", "errorPlace", "I", "StagedCompiler") := List.mem_of_getElem? (i := 147) (by decide +kernel)
theorem nfp_2 : mm_nFp ("StagedCompiler", 61, "StagedCompiler$Instance", "function", "I", "StagedCompiler") := List.mem_of_getElem? (i := 97) (by decide +kernel)
theorem nfp_3 : mm_nFp ("StagedCompiler", 68, "StagedCompiler$Instance", "parameterTypes", "[I", "StagedCompiler") := List.mem_of_getElem? (i := 101) (by decide +kernel)
theorem nfp_4 : mm_nFp ("StagedCompiler", 74, "StagedCompiler$Instance", "counts", "[J", "StagedCompiler") := List.mem_of_getElem? (i := 104) (by decide +kernel)
theorem nfp_5 : mm_nFp ("StagedCompiler", 81, "StagedCompiler$Instance", "types", "[I", "StagedCompiler") := List.mem_of_getElem? (i := 109) (by decide +kernel)
theorem nfp_6 : mm_nFp ("StagedCompiler", 84, "StagedCompiler$Instance", "isKnown", "[Z", "StagedCompiler") := List.mem_of_getElem? (i := 112) (by decide +kernel)
theorem nfp_7 : mm_nFp ("StagedCompiler", 88, "StagedCompiler$Instance", "values", "[J", "StagedCompiler") := List.mem_of_getElem? (i := 118) (by decide +kernel)
theorem nfp_8 : mm_nFp ("StagedCompiler", 103, "StagedCompiler$Program", "nodeCount", "I", "StagedCompiler") := List.mem_of_getElem? (i := 51) (by decide +kernel)
theorem nfp_9 : mm_nFp ("StagedCompiler", 106, "StagedCompiler$Program", "functionCount", "I", "StagedCompiler") := List.mem_of_getElem? (i := 53) (by decide +kernel)
theorem nfp_10 : mm_nFp ("StagedCompiler", 109, "StagedCompiler$Compilation", "instanceCount", "I", "StagedCompiler") := List.mem_of_getElem? (i := 144) (by decide +kernel)
theorem nfp_11 : mm_nFp ("StagedCompiler", 112, "StagedCompiler$Machine", "callsMade", "I", "StagedCompiler") := List.mem_of_getElem? (i := 169) (by decide +kernel)
theorem nfp_12 : mm_nFp ("StagedCompiler$Program", 99, "StagedCompiler$Instance", "isKnown", "[Z", "StagedCompiler") := List.mem_of_getElem? (i := 114) (by decide +kernel)
theorem nfp_13 : mm_nFp ("StagedCompiler$Compilation", 40, "StagedCompiler$Program", "bodies", "[I", "StagedCompiler") := List.mem_of_getElem? (i := 49) (by decide +kernel)
theorem nfp_14 : mm_nFp ("StagedCompiler$Compilation", 46, "StagedCompiler$Instance", "function", "I", "StagedCompiler") := List.mem_of_getElem? (i := 96) (by decide +kernel)
theorem nfp_15 : mm_nFp ("StagedCompiler$Compilation", 53, "StagedCompiler$Instance", "resultType", "I", "StagedCompiler") := List.mem_of_getElem? (i := 99) (by decide +kernel)
theorem nfp_16 : mm_nFp ("StagedCompiler$Compilation", 68, "StagedCompiler$Instance", "types", "[I", "StagedCompiler") := List.mem_of_getElem? (i := 108) (by decide +kernel)
theorem nfp_17 : mm_nFp ("StagedCompiler$Compilation", 77, "StagedCompiler$Instance", "values", "[J", "StagedCompiler") := List.mem_of_getElem? (i := 117) (by decide +kernel)
theorem nfp_18 : mm_nFp ("StagedCompiler$Compilation", 88, "StagedCompiler$Program", "kinds", "[I", "StagedCompiler") := List.mem_of_getElem? (i := 27) (by decide +kernel)
theorem nfp_19 : mm_nFp ("StagedCompiler$Compilation", 91, "StagedCompiler$Program", "as", "[I", "StagedCompiler") := List.mem_of_getElem? (i := 30) (by decide +kernel)
theorem nfp_20 : mm_nFp ("StagedCompiler$Compilation", 116, "StagedCompiler$Instance", "parameterTypes", "[I", "StagedCompiler") := List.mem_of_getElem? (i := 102) (by decide +kernel)
theorem nfp_21 : mm_nFp ("StagedCompiler$Compilation", 119, "StagedCompiler$Instance", "counts", "[J", "StagedCompiler") := List.mem_of_getElem? (i := 105) (by decide +kernel)
theorem nfp_22 : mm_nFp ("StagedCompiler$Compilation", 126, "StagedCompiler$Program", "bs", "[I", "StagedCompiler") := List.mem_of_getElem? (i := 33) (by decide +kernel)
theorem nfp_23 : mm_nFp ("StagedCompiler$Compilation", 144, "StagedCompiler$Instance", "isKnown", "[Z", "StagedCompiler") := List.mem_of_getElem? (i := 113) (by decide +kernel)
theorem nfp_24 : mm_nFp ("StagedCompiler$Compilation", 160, "StagedCompiler$Program", "cs", "[I", "StagedCompiler") := List.mem_of_getElem? (i := 36) (by decide +kernel)
theorem nfp_25 : mm_nFp ("StagedCompiler$Compilation", 173, "StagedCompiler$Program", "firsts", "[I", "StagedCompiler") := List.mem_of_getElem? (i := 41) (by decide +kernel)
theorem nfp_26 : mm_nFp ("StagedCompiler$Compilation", 179, "StagedCompiler$Program", "seconds", "[I", "StagedCompiler") := List.mem_of_getElem? (i := 44) (by decide +kernel)
theorem nfp_27 : mm_nFp ("StagedCompiler$Compilation", 193, "StagedCompiler$Instance", "callees", "[I", "StagedCompiler") := List.mem_of_getElem? (i := 121) (by decide +kernel)
theorem nfp_28 : mm_nFp ("StagedCompiler$Instance", 41, "StagedCompiler$Program", "firsts", "[I", "StagedCompiler") := List.mem_of_getElem? (i := 40) (by decide +kernel)
theorem nfp_29 : mm_nFp ("StagedCompiler$Instance", 46, "StagedCompiler$Program", "seconds", "[I", "StagedCompiler") := List.mem_of_getElem? (i := 43) (by decide +kernel)
theorem nfp_30 : mm_nFp ("StagedCompiler$Instance", 53, "StagedCompiler$Program", "results", "[I", "StagedCompiler") := List.mem_of_getElem? (i := 46) (by decide +kernel)
theorem nfp_31 : mm_nFp ("StagedCompiler$Machine", 26, "StagedCompiler$Program", "bodies", "[I", "StagedCompiler") := List.mem_of_getElem? (i := 48) (by decide +kernel)
theorem nfp_32 : mm_nFp ("StagedCompiler$Machine", 32, "StagedCompiler$Instance", "function", "I", "StagedCompiler") := List.mem_of_getElem? (i := 95) (by decide +kernel)
theorem nfp_33 : mm_nFp ("StagedCompiler$Machine", 43, "StagedCompiler$Instance", "isKnown", "[Z", "StagedCompiler") := List.mem_of_getElem? (i := 111) (by decide +kernel)
theorem nfp_34 : mm_nFp ("StagedCompiler$Machine", 47, "StagedCompiler$Instance", "values", "[J", "StagedCompiler") := List.mem_of_getElem? (i := 116) (by decide +kernel)
theorem nfp_35 : mm_nFp ("StagedCompiler$Machine", 51, "StagedCompiler$Program", "kinds", "[I", "StagedCompiler") := List.mem_of_getElem? (i := 26) (by decide +kernel)
theorem nfp_36 : mm_nFp ("StagedCompiler$Machine", 54, "StagedCompiler$Program", "as", "[I", "StagedCompiler") := List.mem_of_getElem? (i := 29) (by decide +kernel)
theorem nfp_37 : mm_nFp ("StagedCompiler$Machine", 75, "StagedCompiler$Program", "bs", "[I", "StagedCompiler") := List.mem_of_getElem? (i := 32) (by decide +kernel)
theorem nfp_38 : mm_nFp ("StagedCompiler$Machine", 78, "StagedCompiler$Instance", "types", "[I", "StagedCompiler") := List.mem_of_getElem? (i := 107) (by decide +kernel)
theorem nfp_39 : mm_nFp ("StagedCompiler$Machine", 85, "StagedCompiler$Program", "cs", "[I", "StagedCompiler") := List.mem_of_getElem? (i := 35) (by decide +kernel)
theorem nfp_40 : mm_nFp ("StagedCompiler$Machine", 94, "StagedCompiler$Instance", "callees", "[I", "StagedCompiler") := List.mem_of_getElem? (i := 120) (by decide +kernel)
theorem nfp_g0 : ∀ q ∈ ([("StagedCompiler", 27, "StagedCompiler$Compilation", "instances", "[LStagedCompiler$Instance;", "StagedCompiler"), ("StagedCompiler", 54, "StagedCompiler$Compilation", "errorPlace", "I", "StagedCompiler"), ("StagedCompiler", 61, "StagedCompiler$Instance", "function", "I", "StagedCompiler"), ("StagedCompiler", 68, "StagedCompiler$Instance", "parameterTypes", "[I", "StagedCompiler"), ("StagedCompiler", 74, "StagedCompiler$Instance", "counts", "[J", "StagedCompiler"), ("StagedCompiler", 81, "StagedCompiler$Instance", "types", "[I", "StagedCompiler"), ("StagedCompiler", 84, "StagedCompiler$Instance", "isKnown", "[Z", "StagedCompiler"), ("StagedCompiler", 88, "StagedCompiler$Instance", "values", "[J", "StagedCompiler"), ("StagedCompiler", 103, "StagedCompiler$Program", "nodeCount", "I", "StagedCompiler"), ("StagedCompiler", 106, "StagedCompiler$Program", "functionCount", "I", "StagedCompiler"), ("StagedCompiler", 109, "StagedCompiler$Compilation", "instanceCount", "I", "StagedCompiler"), ("StagedCompiler", 112, "StagedCompiler$Machine", "callsMade", "I", "StagedCompiler"), ("StagedCompiler$Program", 99, "StagedCompiler$Instance", "isKnown", "[Z", "StagedCompiler"), ("StagedCompiler$Compilation", 40, "StagedCompiler$Program", "bodies", "[I", "StagedCompiler"), ("StagedCompiler$Compilation", 46, "StagedCompiler$Instance", "function", "I", "StagedCompiler"), ("StagedCompiler$Compilation", 53, "StagedCompiler$Instance", "resultType", "I", "StagedCompiler"), ("StagedCompiler$Compilation", 68, "StagedCompiler$Instance", "types", "[I", "StagedCompiler"), ("StagedCompiler$Compilation", 77, "StagedCompiler$Instance", "values", "[J", "StagedCompiler"), ("StagedCompiler$Compilation", 88, "StagedCompiler$Program", "kinds", "[I", "StagedCompiler"), ("StagedCompiler$Compilation", 91, "StagedCompiler$Program", "as", "[I", "StagedCompiler"), ("StagedCompiler$Compilation", 116, "StagedCompiler$Instance", "parameterTypes", "[I", "StagedCompiler"), ("StagedCompiler$Compilation", 119, "StagedCompiler$Instance", "counts", "[J", "StagedCompiler"), ("StagedCompiler$Compilation", 126, "StagedCompiler$Program", "bs", "[I", "StagedCompiler"), ("StagedCompiler$Compilation", 144, "StagedCompiler$Instance", "isKnown", "[Z", "StagedCompiler"), ("StagedCompiler$Compilation", 160, "StagedCompiler$Program", "cs", "[I", "StagedCompiler")] : List (String × Nat × String × String × String × String)), mm_nFp q := List.forall_mem_cons.mpr ⟨nfp_0, List.forall_mem_cons.mpr ⟨nfp_1, List.forall_mem_cons.mpr ⟨nfp_2, List.forall_mem_cons.mpr ⟨nfp_3, List.forall_mem_cons.mpr ⟨nfp_4, List.forall_mem_cons.mpr ⟨nfp_5, List.forall_mem_cons.mpr ⟨nfp_6, List.forall_mem_cons.mpr ⟨nfp_7, List.forall_mem_cons.mpr ⟨nfp_8, List.forall_mem_cons.mpr ⟨nfp_9, List.forall_mem_cons.mpr ⟨nfp_10, List.forall_mem_cons.mpr ⟨nfp_11, List.forall_mem_cons.mpr ⟨nfp_12, List.forall_mem_cons.mpr ⟨nfp_13, List.forall_mem_cons.mpr ⟨nfp_14, List.forall_mem_cons.mpr ⟨nfp_15, List.forall_mem_cons.mpr ⟨nfp_16, List.forall_mem_cons.mpr ⟨nfp_17, List.forall_mem_cons.mpr ⟨nfp_18, List.forall_mem_cons.mpr ⟨nfp_19, List.forall_mem_cons.mpr ⟨nfp_20, List.forall_mem_cons.mpr ⟨nfp_21, List.forall_mem_cons.mpr ⟨nfp_22, List.forall_mem_cons.mpr ⟨nfp_23, List.forall_mem_cons.mpr ⟨nfp_24, fun _ h => absurd h List.not_mem_nil⟩⟩⟩⟩⟩⟩⟩⟩⟩⟩⟩⟩⟩⟩⟩⟩⟩⟩⟩⟩⟩⟩⟩⟩⟩
theorem nfp_g1 : ∀ q ∈ ([("StagedCompiler$Compilation", 173, "StagedCompiler$Program", "firsts", "[I", "StagedCompiler"), ("StagedCompiler$Compilation", 179, "StagedCompiler$Program", "seconds", "[I", "StagedCompiler"), ("StagedCompiler$Compilation", 193, "StagedCompiler$Instance", "callees", "[I", "StagedCompiler"), ("StagedCompiler$Instance", 41, "StagedCompiler$Program", "firsts", "[I", "StagedCompiler"), ("StagedCompiler$Instance", 46, "StagedCompiler$Program", "seconds", "[I", "StagedCompiler"), ("StagedCompiler$Instance", 53, "StagedCompiler$Program", "results", "[I", "StagedCompiler"), ("StagedCompiler$Machine", 26, "StagedCompiler$Program", "bodies", "[I", "StagedCompiler"), ("StagedCompiler$Machine", 32, "StagedCompiler$Instance", "function", "I", "StagedCompiler"), ("StagedCompiler$Machine", 43, "StagedCompiler$Instance", "isKnown", "[Z", "StagedCompiler"), ("StagedCompiler$Machine", 47, "StagedCompiler$Instance", "values", "[J", "StagedCompiler"), ("StagedCompiler$Machine", 51, "StagedCompiler$Program", "kinds", "[I", "StagedCompiler"), ("StagedCompiler$Machine", 54, "StagedCompiler$Program", "as", "[I", "StagedCompiler"), ("StagedCompiler$Machine", 75, "StagedCompiler$Program", "bs", "[I", "StagedCompiler"), ("StagedCompiler$Machine", 78, "StagedCompiler$Instance", "types", "[I", "StagedCompiler"), ("StagedCompiler$Machine", 85, "StagedCompiler$Program", "cs", "[I", "StagedCompiler"), ("StagedCompiler$Machine", 94, "StagedCompiler$Instance", "callees", "[I", "StagedCompiler")] : List (String × Nat × String × String × String × String)), mm_nFp q := List.forall_mem_cons.mpr ⟨nfp_25, List.forall_mem_cons.mpr ⟨nfp_26, List.forall_mem_cons.mpr ⟨nfp_27, List.forall_mem_cons.mpr ⟨nfp_28, List.forall_mem_cons.mpr ⟨nfp_29, List.forall_mem_cons.mpr ⟨nfp_30, List.forall_mem_cons.mpr ⟨nfp_31, List.forall_mem_cons.mpr ⟨nfp_32, List.forall_mem_cons.mpr ⟨nfp_33, List.forall_mem_cons.mpr ⟨nfp_34, List.forall_mem_cons.mpr ⟨nfp_35, List.forall_mem_cons.mpr ⟨nfp_36, List.forall_mem_cons.mpr ⟨nfp_37, List.forall_mem_cons.mpr ⟨nfp_38, List.forall_mem_cons.mpr ⟨nfp_39, List.forall_mem_cons.mpr ⟨nfp_40, fun _ h => absurd h List.not_mem_nil⟩⟩⟩⟩⟩⟩⟩⟩⟩⟩⟩⟩⟩⟩⟩⟩
theorem nfp_all : ∀ q ∈ mm_nF, mm_nFp q := by
  intro q hq
  have e : mm_nF = ([("StagedCompiler", 27, "StagedCompiler$Compilation", "instances", "[LStagedCompiler$Instance;", "StagedCompiler"), ("StagedCompiler", 54, "StagedCompiler$Compilation", "errorPlace", "I", "StagedCompiler"), ("StagedCompiler", 61, "StagedCompiler$Instance", "function", "I", "StagedCompiler"), ("StagedCompiler", 68, "StagedCompiler$Instance", "parameterTypes", "[I", "StagedCompiler"), ("StagedCompiler", 74, "StagedCompiler$Instance", "counts", "[J", "StagedCompiler"), ("StagedCompiler", 81, "StagedCompiler$Instance", "types", "[I", "StagedCompiler"), ("StagedCompiler", 84, "StagedCompiler$Instance", "isKnown", "[Z", "StagedCompiler"), ("StagedCompiler", 88, "StagedCompiler$Instance", "values", "[J", "StagedCompiler"), ("StagedCompiler", 103, "StagedCompiler$Program", "nodeCount", "I", "StagedCompiler"), ("StagedCompiler", 106, "StagedCompiler$Program", "functionCount", "I", "StagedCompiler"), ("StagedCompiler", 109, "StagedCompiler$Compilation", "instanceCount", "I", "StagedCompiler"), ("StagedCompiler", 112, "StagedCompiler$Machine", "callsMade", "I", "StagedCompiler"), ("StagedCompiler$Program", 99, "StagedCompiler$Instance", "isKnown", "[Z", "StagedCompiler"), ("StagedCompiler$Compilation", 40, "StagedCompiler$Program", "bodies", "[I", "StagedCompiler"), ("StagedCompiler$Compilation", 46, "StagedCompiler$Instance", "function", "I", "StagedCompiler"), ("StagedCompiler$Compilation", 53, "StagedCompiler$Instance", "resultType", "I", "StagedCompiler"), ("StagedCompiler$Compilation", 68, "StagedCompiler$Instance", "types", "[I", "StagedCompiler"), ("StagedCompiler$Compilation", 77, "StagedCompiler$Instance", "values", "[J", "StagedCompiler"), ("StagedCompiler$Compilation", 88, "StagedCompiler$Program", "kinds", "[I", "StagedCompiler"), ("StagedCompiler$Compilation", 91, "StagedCompiler$Program", "as", "[I", "StagedCompiler"), ("StagedCompiler$Compilation", 116, "StagedCompiler$Instance", "parameterTypes", "[I", "StagedCompiler"), ("StagedCompiler$Compilation", 119, "StagedCompiler$Instance", "counts", "[J", "StagedCompiler"), ("StagedCompiler$Compilation", 126, "StagedCompiler$Program", "bs", "[I", "StagedCompiler"), ("StagedCompiler$Compilation", 144, "StagedCompiler$Instance", "isKnown", "[Z", "StagedCompiler"), ("StagedCompiler$Compilation", 160, "StagedCompiler$Program", "cs", "[I", "StagedCompiler")] : List (String × Nat × String × String × String × String)) ++ (([("StagedCompiler$Compilation", 173, "StagedCompiler$Program", "firsts", "[I", "StagedCompiler"), ("StagedCompiler$Compilation", 179, "StagedCompiler$Program", "seconds", "[I", "StagedCompiler"), ("StagedCompiler$Compilation", 193, "StagedCompiler$Instance", "callees", "[I", "StagedCompiler"), ("StagedCompiler$Instance", 41, "StagedCompiler$Program", "firsts", "[I", "StagedCompiler"), ("StagedCompiler$Instance", 46, "StagedCompiler$Program", "seconds", "[I", "StagedCompiler"), ("StagedCompiler$Instance", 53, "StagedCompiler$Program", "results", "[I", "StagedCompiler"), ("StagedCompiler$Machine", 26, "StagedCompiler$Program", "bodies", "[I", "StagedCompiler"), ("StagedCompiler$Machine", 32, "StagedCompiler$Instance", "function", "I", "StagedCompiler"), ("StagedCompiler$Machine", 43, "StagedCompiler$Instance", "isKnown", "[Z", "StagedCompiler"), ("StagedCompiler$Machine", 47, "StagedCompiler$Instance", "values", "[J", "StagedCompiler"), ("StagedCompiler$Machine", 51, "StagedCompiler$Program", "kinds", "[I", "StagedCompiler"), ("StagedCompiler$Machine", 54, "StagedCompiler$Program", "as", "[I", "StagedCompiler"), ("StagedCompiler$Machine", 75, "StagedCompiler$Program", "bs", "[I", "StagedCompiler"), ("StagedCompiler$Machine", 78, "StagedCompiler$Instance", "types", "[I", "StagedCompiler"), ("StagedCompiler$Machine", 85, "StagedCompiler$Program", "cs", "[I", "StagedCompiler"), ("StagedCompiler$Machine", 94, "StagedCompiler$Instance", "callees", "[I", "StagedCompiler")] : List (String × Nat × String × String × String × String))) := rfl
  rw [e] at hq
  rcases List.mem_append.mp hq with hq | hq
  · exact nfp_g0 q hq
  exact nfp_g1 q hq
def mm_nMp (q : String × Nat × MethodName × String) : Prop := Cond.methodLinkNest q.1 q.2.1 q.2.2.1 q.2.2.2 ∈ tables_1
theorem nmp_0 : mm_nMp ("StagedCompiler", 9, ⟨"StagedCompiler$Program", "<init>", "()V"⟩, "StagedCompiler") := List.mem_of_getElem? (i := 21) (by decide +kernel)
theorem nmp_1 : mm_nMp ("StagedCompiler", 12, ⟨"StagedCompiler$Compilation", "<init>", "(LStagedCompiler$Program;)V"⟩, "StagedCompiler") := List.mem_of_getElem? (i := 83) (by decide +kernel)
theorem nmp_2 : mm_nMp ("StagedCompiler", 31, ⟨"StagedCompiler$Machine", "<init>", "(LStagedCompiler$Program;[LStagedCompiler$Instance;)V"⟩, "StagedCompiler") := List.mem_of_getElem? (i := 161) (by decide +kernel)
theorem nmp_3 : mm_nMp ("StagedCompiler$Compilation", 21, ⟨"StagedCompiler$Instance", "<init>", "()V"⟩, "StagedCompiler") := List.mem_of_getElem? (i := 90) (by decide +kernel)
theorem nmp_4 : mm_nMp ("StagedCompiler", 38, ⟨"StagedCompiler$Program", "addNode", "(IIII)I"⟩, "StagedCompiler") := List.mem_of_getElem? (i := 193) (by decide +kernel)
theorem nmp_5 : mm_nMp ("StagedCompiler", 42, ⟨"StagedCompiler$Program", "addFunction", "(IIIII)I"⟩, "StagedCompiler") := List.mem_of_getElem? (i := 236) (by decide +kernel)
theorem nmp_6 : mm_nMp ("StagedCompiler", 46, ⟨"StagedCompiler$Program", "hasFunction", "(I)Z"⟩, "StagedCompiler") := List.mem_of_getElem? (i := 252) (by decide +kernel)
theorem nmp_7 : mm_nMp ("StagedCompiler", 50, ⟨"StagedCompiler$Compilation", "compileAll", "(IJJ)I"⟩, "StagedCompiler") := List.mem_of_getElem? (i := 256) (by decide +kernel)
theorem nmp_8 : mm_nMp ("StagedCompiler", 58, ⟨"StagedCompiler$Compilation", "hasInstance", "(I)Z"⟩, "StagedCompiler") := List.mem_of_getElem? (i := 418) (by decide +kernel)
theorem nmp_9 : mm_nMp ("StagedCompiler", 78, ⟨"StagedCompiler$Program", "hasNode", "(I)Z"⟩, "StagedCompiler") := List.mem_of_getElem? (i := 431) (by decide +kernel)
theorem nmp_10 : mm_nMp ("StagedCompiler", 91, ⟨"StagedCompiler$Program", "nodesLeftToRun", "(LStagedCompiler$Instance;)I"⟩, "StagedCompiler") := List.mem_of_getElem? (i := 440) (by decide +kernel)
theorem nmp_11 : mm_nMp ("StagedCompiler", 95, ⟨"StagedCompiler$Instance", "takes", "(IJ)Z"⟩, "StagedCompiler") := List.mem_of_getElem? (i := 452) (by decide +kernel)
theorem nmp_12 : mm_nMp ("StagedCompiler", 99, ⟨"StagedCompiler$Machine", "runBody", "(LStagedCompiler$Instance;JJ)J"⟩, "StagedCompiler") := List.mem_of_getElem? (i := 461) (by decide +kernel)
theorem nmp_13 : mm_nMp ("StagedCompiler$Program", 50, ⟨"StagedCompiler$Kind", "isOne", "(I)Z"⟩, "StagedCompiler") := List.mem_of_getElem? (i := 197) (by decide +kernel)
theorem nmp_14 : mm_nMp ("StagedCompiler$Program", 67, ⟨"StagedCompiler$Types", "isCastCode", "(I)Z"⟩, "StagedCompiler") := List.mem_of_getElem? (i := 208) (by decide +kernel)
theorem nmp_15 : mm_nMp ("StagedCompiler$Program", 85, ⟨"StagedCompiler$Types", "isParameterCode", "(I)Z"⟩, "StagedCompiler") := List.mem_of_getElem? (i := 240) (by decide +kernel)
theorem nmp_16 : mm_nMp ("StagedCompiler$Program", 88, ⟨"StagedCompiler$Types", "isResultCode", "(I)Z"⟩, "StagedCompiler") := List.mem_of_getElem? (i := 247) (by decide +kernel)
theorem nmp_17 : mm_nMp ("StagedCompiler$Program", 91, ⟨"StagedCompiler$Kind", "countsForSize", "(I)Z"⟩, "StagedCompiler") := List.mem_of_getElem? (i := 444) (by decide +kernel)
theorem nmp_18 : mm_nMp ("StagedCompiler$Program", 94, ⟨"StagedCompiler$Instance", "wasLookedAt", "(I)Z"⟩, "StagedCompiler") := List.mem_of_getElem? (i := 447) (by decide +kernel)
theorem nmp_19 : mm_nMp ("StagedCompiler$Compilation", 60, ⟨"StagedCompiler$Instance", "isOf", "(IJJ)Z"⟩, "StagedCompiler") := List.mem_of_getElem? (i := 264) (by decide +kernel)
theorem nmp_20 : mm_nMp ("StagedCompiler$Compilation", 64, ⟨"StagedCompiler$Instance", "begin", "(LStagedCompiler$Program;IJJ)Z"⟩, "StagedCompiler") := List.mem_of_getElem? (i := 272) (by decide +kernel)
theorem nmp_21 : mm_nMp ("StagedCompiler$Compilation", 73, ⟨"StagedCompiler$Types", "isInt", "(I)Z"⟩, "StagedCompiler") := List.mem_of_getElem? (i := 322) (by decide +kernel)
theorem nmp_22 : mm_nMp ("StagedCompiler$Compilation", 81, ⟨"StagedCompiler$Types", "holds", "(IJ)Z"⟩, "StagedCompiler") := List.mem_of_getElem? (i := 323) (by decide +kernel)
theorem nmp_23 : mm_nMp ("StagedCompiler$Compilation", 85, ⟨"StagedCompiler$Instance", "wasLookedAt", "(I)Z"⟩, "StagedCompiler") := List.mem_of_getElem? (i := 290) (by decide +kernel)
theorem nmp_24 : mm_nMp ("StagedCompiler$Compilation", 94, ⟨"StagedCompiler$Instance", "findKnown", "(IIJ)Z"⟩, "StagedCompiler") := List.mem_of_getElem? (i := 294) (by decide +kernel)
theorem nmp_25 : mm_nMp ("StagedCompiler$Compilation", 122, ⟨"StagedCompiler$Instance", "find", "(II)Z"⟩, "StagedCompiler") := List.mem_of_getElem? (i := 302) (by decide +kernel)
theorem nmp_26 : mm_nMp ("StagedCompiler$Compilation", 138, ⟨"StagedCompiler$Kind", "isWrapOrClamp", "(I)Z"⟩, "StagedCompiler") := List.mem_of_getElem? (i := 375) (by decide +kernel)
theorem nmp_27 : mm_nMp ("StagedCompiler$Compilation", 141, ⟨"StagedCompiler$Kind", "isComparison", "(I)Z"⟩, "StagedCompiler") := List.mem_of_getElem? (i := 378) (by decide +kernel)
theorem nmp_28 : mm_nMp ("StagedCompiler$Compilation", 148, ⟨"StagedCompiler$Arithmetic", "work", "(IIJJ)J"⟩, "StagedCompiler") := List.mem_of_getElem? (i := 381) (by decide +kernel)
theorem nmp_29 : mm_nMp ("StagedCompiler$Compilation", 154, ⟨"StagedCompiler$Arithmetic", "isTrap", "(J)Z"⟩, "StagedCompiler") := List.mem_of_getElem? (i := 405) (by decide +kernel)
theorem nmp_30 : mm_nMp ("StagedCompiler$Compilation", 163, ⟨"StagedCompiler$Instance", "findSameAs", "(II)Z"⟩, "StagedCompiler") := List.mem_of_getElem? (i := 310) (by decide +kernel)
theorem nmp_31 : mm_nMp ("StagedCompiler$Compilation", 166, ⟨"StagedCompiler$Instance", "typeByCode", "(I)I"⟩, "StagedCompiler") := List.mem_of_getElem? (i := 342) (by decide +kernel)
theorem nmp_32 : mm_nMp ("StagedCompiler$Compilation", 170, ⟨"StagedCompiler$Program", "hasFunction", "(I)Z"⟩, "StagedCompiler") := List.mem_of_getElem? (i := 347) (by decide +kernel)
theorem nmp_33 : mm_nMp ("StagedCompiler$Instance", 56, ⟨"StagedCompiler$Types", "isByParameter", "(I)Z"⟩, "StagedCompiler") := List.mem_of_getElem? (i := 280) (by decide +kernel)
theorem nmp_34 : mm_nMp ("StagedCompiler$Instance", 69, ⟨"StagedCompiler$Types", "holds", "(IJ)Z"⟩, "StagedCompiler") := List.mem_of_getElem? (i := 460) (by decide +kernel)
theorem nmp_35 : mm_nMp ("StagedCompiler$Machine", 69, ⟨"StagedCompiler$Arithmetic", "isTrap", "(J)Z"⟩, "StagedCompiler") := List.mem_of_getElem? (i := 474) (by decide +kernel)
theorem nmp_36 : mm_nMp ("StagedCompiler$Machine", 81, ⟨"StagedCompiler$Arithmetic", "work", "(IIJJ)J"⟩, "StagedCompiler") := List.mem_of_getElem? (i := 490) (by decide +kernel)
theorem nmp_37 : mm_nMp ("StagedCompiler$Machine", 88, ⟨"StagedCompiler$Arithmetic", "checked", "(IJ)J"⟩, "StagedCompiler") := List.mem_of_getElem? (i := 479) (by decide +kernel)
theorem nmp_38 : mm_nMp ("StagedCompiler$Machine", 97, ⟨"StagedCompiler$Instance", "isRunParameter", "(I)Z"⟩, "StagedCompiler") := List.mem_of_getElem? (i := 485) (by decide +kernel)
theorem nmp_39 : mm_nMp ("StagedCompiler$Arithmetic", 25, ⟨"StagedCompiler$Types", "holds", "(IJ)Z"⟩, "StagedCompiler") := List.mem_of_getElem? (i := 387) (by decide +kernel)
theorem nmp_40 : mm_nMp ("StagedCompiler$Arithmetic", 39, ⟨"StagedCompiler$Types", "lowest", "(I)J"⟩, "StagedCompiler") := List.mem_of_getElem? (i := 397) (by decide +kernel)
theorem nmp_41 : mm_nMp ("StagedCompiler$Arithmetic", 43, ⟨"StagedCompiler$Types", "highest", "(I)J"⟩, "StagedCompiler") := List.mem_of_getElem? (i := 398) (by decide +kernel)
theorem nmp_g0 : ∀ q ∈ ([("StagedCompiler", 9, ⟨"StagedCompiler$Program", "<init>", "()V"⟩, "StagedCompiler"), ("StagedCompiler", 12, ⟨"StagedCompiler$Compilation", "<init>", "(LStagedCompiler$Program;)V"⟩, "StagedCompiler"), ("StagedCompiler", 31, ⟨"StagedCompiler$Machine", "<init>", "(LStagedCompiler$Program;[LStagedCompiler$Instance;)V"⟩, "StagedCompiler"), ("StagedCompiler$Compilation", 21, ⟨"StagedCompiler$Instance", "<init>", "()V"⟩, "StagedCompiler"), ("StagedCompiler", 38, ⟨"StagedCompiler$Program", "addNode", "(IIII)I"⟩, "StagedCompiler"), ("StagedCompiler", 42, ⟨"StagedCompiler$Program", "addFunction", "(IIIII)I"⟩, "StagedCompiler"), ("StagedCompiler", 46, ⟨"StagedCompiler$Program", "hasFunction", "(I)Z"⟩, "StagedCompiler"), ("StagedCompiler", 50, ⟨"StagedCompiler$Compilation", "compileAll", "(IJJ)I"⟩, "StagedCompiler"), ("StagedCompiler", 58, ⟨"StagedCompiler$Compilation", "hasInstance", "(I)Z"⟩, "StagedCompiler"), ("StagedCompiler", 78, ⟨"StagedCompiler$Program", "hasNode", "(I)Z"⟩, "StagedCompiler"), ("StagedCompiler", 91, ⟨"StagedCompiler$Program", "nodesLeftToRun", "(LStagedCompiler$Instance;)I"⟩, "StagedCompiler"), ("StagedCompiler", 95, ⟨"StagedCompiler$Instance", "takes", "(IJ)Z"⟩, "StagedCompiler"), ("StagedCompiler", 99, ⟨"StagedCompiler$Machine", "runBody", "(LStagedCompiler$Instance;JJ)J"⟩, "StagedCompiler"), ("StagedCompiler$Program", 50, ⟨"StagedCompiler$Kind", "isOne", "(I)Z"⟩, "StagedCompiler"), ("StagedCompiler$Program", 67, ⟨"StagedCompiler$Types", "isCastCode", "(I)Z"⟩, "StagedCompiler"), ("StagedCompiler$Program", 85, ⟨"StagedCompiler$Types", "isParameterCode", "(I)Z"⟩, "StagedCompiler"), ("StagedCompiler$Program", 88, ⟨"StagedCompiler$Types", "isResultCode", "(I)Z"⟩, "StagedCompiler"), ("StagedCompiler$Program", 91, ⟨"StagedCompiler$Kind", "countsForSize", "(I)Z"⟩, "StagedCompiler"), ("StagedCompiler$Program", 94, ⟨"StagedCompiler$Instance", "wasLookedAt", "(I)Z"⟩, "StagedCompiler"), ("StagedCompiler$Compilation", 60, ⟨"StagedCompiler$Instance", "isOf", "(IJJ)Z"⟩, "StagedCompiler"), ("StagedCompiler$Compilation", 64, ⟨"StagedCompiler$Instance", "begin", "(LStagedCompiler$Program;IJJ)Z"⟩, "StagedCompiler"), ("StagedCompiler$Compilation", 73, ⟨"StagedCompiler$Types", "isInt", "(I)Z"⟩, "StagedCompiler"), ("StagedCompiler$Compilation", 81, ⟨"StagedCompiler$Types", "holds", "(IJ)Z"⟩, "StagedCompiler"), ("StagedCompiler$Compilation", 85, ⟨"StagedCompiler$Instance", "wasLookedAt", "(I)Z"⟩, "StagedCompiler"), ("StagedCompiler$Compilation", 94, ⟨"StagedCompiler$Instance", "findKnown", "(IIJ)Z"⟩, "StagedCompiler")] : List (String × Nat × MethodName × String)), mm_nMp q := List.forall_mem_cons.mpr ⟨nmp_0, List.forall_mem_cons.mpr ⟨nmp_1, List.forall_mem_cons.mpr ⟨nmp_2, List.forall_mem_cons.mpr ⟨nmp_3, List.forall_mem_cons.mpr ⟨nmp_4, List.forall_mem_cons.mpr ⟨nmp_5, List.forall_mem_cons.mpr ⟨nmp_6, List.forall_mem_cons.mpr ⟨nmp_7, List.forall_mem_cons.mpr ⟨nmp_8, List.forall_mem_cons.mpr ⟨nmp_9, List.forall_mem_cons.mpr ⟨nmp_10, List.forall_mem_cons.mpr ⟨nmp_11, List.forall_mem_cons.mpr ⟨nmp_12, List.forall_mem_cons.mpr ⟨nmp_13, List.forall_mem_cons.mpr ⟨nmp_14, List.forall_mem_cons.mpr ⟨nmp_15, List.forall_mem_cons.mpr ⟨nmp_16, List.forall_mem_cons.mpr ⟨nmp_17, List.forall_mem_cons.mpr ⟨nmp_18, List.forall_mem_cons.mpr ⟨nmp_19, List.forall_mem_cons.mpr ⟨nmp_20, List.forall_mem_cons.mpr ⟨nmp_21, List.forall_mem_cons.mpr ⟨nmp_22, List.forall_mem_cons.mpr ⟨nmp_23, List.forall_mem_cons.mpr ⟨nmp_24, fun _ h => absurd h List.not_mem_nil⟩⟩⟩⟩⟩⟩⟩⟩⟩⟩⟩⟩⟩⟩⟩⟩⟩⟩⟩⟩⟩⟩⟩⟩⟩
theorem nmp_g1 : ∀ q ∈ ([("StagedCompiler$Compilation", 122, ⟨"StagedCompiler$Instance", "find", "(II)Z"⟩, "StagedCompiler"), ("StagedCompiler$Compilation", 138, ⟨"StagedCompiler$Kind", "isWrapOrClamp", "(I)Z"⟩, "StagedCompiler"), ("StagedCompiler$Compilation", 141, ⟨"StagedCompiler$Kind", "isComparison", "(I)Z"⟩, "StagedCompiler"), ("StagedCompiler$Compilation", 148, ⟨"StagedCompiler$Arithmetic", "work", "(IIJJ)J"⟩, "StagedCompiler"), ("StagedCompiler$Compilation", 154, ⟨"StagedCompiler$Arithmetic", "isTrap", "(J)Z"⟩, "StagedCompiler"), ("StagedCompiler$Compilation", 163, ⟨"StagedCompiler$Instance", "findSameAs", "(II)Z"⟩, "StagedCompiler"), ("StagedCompiler$Compilation", 166, ⟨"StagedCompiler$Instance", "typeByCode", "(I)I"⟩, "StagedCompiler"), ("StagedCompiler$Compilation", 170, ⟨"StagedCompiler$Program", "hasFunction", "(I)Z"⟩, "StagedCompiler"), ("StagedCompiler$Instance", 56, ⟨"StagedCompiler$Types", "isByParameter", "(I)Z"⟩, "StagedCompiler"), ("StagedCompiler$Instance", 69, ⟨"StagedCompiler$Types", "holds", "(IJ)Z"⟩, "StagedCompiler"), ("StagedCompiler$Machine", 69, ⟨"StagedCompiler$Arithmetic", "isTrap", "(J)Z"⟩, "StagedCompiler"), ("StagedCompiler$Machine", 81, ⟨"StagedCompiler$Arithmetic", "work", "(IIJJ)J"⟩, "StagedCompiler"), ("StagedCompiler$Machine", 88, ⟨"StagedCompiler$Arithmetic", "checked", "(IJ)J"⟩, "StagedCompiler"), ("StagedCompiler$Machine", 97, ⟨"StagedCompiler$Instance", "isRunParameter", "(I)Z"⟩, "StagedCompiler"), ("StagedCompiler$Arithmetic", 25, ⟨"StagedCompiler$Types", "holds", "(IJ)Z"⟩, "StagedCompiler"), ("StagedCompiler$Arithmetic", 39, ⟨"StagedCompiler$Types", "lowest", "(I)J"⟩, "StagedCompiler"), ("StagedCompiler$Arithmetic", 43, ⟨"StagedCompiler$Types", "highest", "(I)J"⟩, "StagedCompiler")] : List (String × Nat × MethodName × String)), mm_nMp q := List.forall_mem_cons.mpr ⟨nmp_25, List.forall_mem_cons.mpr ⟨nmp_26, List.forall_mem_cons.mpr ⟨nmp_27, List.forall_mem_cons.mpr ⟨nmp_28, List.forall_mem_cons.mpr ⟨nmp_29, List.forall_mem_cons.mpr ⟨nmp_30, List.forall_mem_cons.mpr ⟨nmp_31, List.forall_mem_cons.mpr ⟨nmp_32, List.forall_mem_cons.mpr ⟨nmp_33, List.forall_mem_cons.mpr ⟨nmp_34, List.forall_mem_cons.mpr ⟨nmp_35, List.forall_mem_cons.mpr ⟨nmp_36, List.forall_mem_cons.mpr ⟨nmp_37, List.forall_mem_cons.mpr ⟨nmp_38, List.forall_mem_cons.mpr ⟨nmp_39, List.forall_mem_cons.mpr ⟨nmp_40, List.forall_mem_cons.mpr ⟨nmp_41, fun _ h => absurd h List.not_mem_nil⟩⟩⟩⟩⟩⟩⟩⟩⟩⟩⟩⟩⟩⟩⟩⟩⟩
theorem nmp_all : ∀ q ∈ mm_nM, mm_nMp q := by
  intro q hq
  have e : mm_nM = ([("StagedCompiler", 9, ⟨"StagedCompiler$Program", "<init>", "()V"⟩, "StagedCompiler"), ("StagedCompiler", 12, ⟨"StagedCompiler$Compilation", "<init>", "(LStagedCompiler$Program;)V"⟩, "StagedCompiler"), ("StagedCompiler", 31, ⟨"StagedCompiler$Machine", "<init>", "(LStagedCompiler$Program;[LStagedCompiler$Instance;)V"⟩, "StagedCompiler"), ("StagedCompiler$Compilation", 21, ⟨"StagedCompiler$Instance", "<init>", "()V"⟩, "StagedCompiler"), ("StagedCompiler", 38, ⟨"StagedCompiler$Program", "addNode", "(IIII)I"⟩, "StagedCompiler"), ("StagedCompiler", 42, ⟨"StagedCompiler$Program", "addFunction", "(IIIII)I"⟩, "StagedCompiler"), ("StagedCompiler", 46, ⟨"StagedCompiler$Program", "hasFunction", "(I)Z"⟩, "StagedCompiler"), ("StagedCompiler", 50, ⟨"StagedCompiler$Compilation", "compileAll", "(IJJ)I"⟩, "StagedCompiler"), ("StagedCompiler", 58, ⟨"StagedCompiler$Compilation", "hasInstance", "(I)Z"⟩, "StagedCompiler"), ("StagedCompiler", 78, ⟨"StagedCompiler$Program", "hasNode", "(I)Z"⟩, "StagedCompiler"), ("StagedCompiler", 91, ⟨"StagedCompiler$Program", "nodesLeftToRun", "(LStagedCompiler$Instance;)I"⟩, "StagedCompiler"), ("StagedCompiler", 95, ⟨"StagedCompiler$Instance", "takes", "(IJ)Z"⟩, "StagedCompiler"), ("StagedCompiler", 99, ⟨"StagedCompiler$Machine", "runBody", "(LStagedCompiler$Instance;JJ)J"⟩, "StagedCompiler"), ("StagedCompiler$Program", 50, ⟨"StagedCompiler$Kind", "isOne", "(I)Z"⟩, "StagedCompiler"), ("StagedCompiler$Program", 67, ⟨"StagedCompiler$Types", "isCastCode", "(I)Z"⟩, "StagedCompiler"), ("StagedCompiler$Program", 85, ⟨"StagedCompiler$Types", "isParameterCode", "(I)Z"⟩, "StagedCompiler"), ("StagedCompiler$Program", 88, ⟨"StagedCompiler$Types", "isResultCode", "(I)Z"⟩, "StagedCompiler"), ("StagedCompiler$Program", 91, ⟨"StagedCompiler$Kind", "countsForSize", "(I)Z"⟩, "StagedCompiler"), ("StagedCompiler$Program", 94, ⟨"StagedCompiler$Instance", "wasLookedAt", "(I)Z"⟩, "StagedCompiler"), ("StagedCompiler$Compilation", 60, ⟨"StagedCompiler$Instance", "isOf", "(IJJ)Z"⟩, "StagedCompiler"), ("StagedCompiler$Compilation", 64, ⟨"StagedCompiler$Instance", "begin", "(LStagedCompiler$Program;IJJ)Z"⟩, "StagedCompiler"), ("StagedCompiler$Compilation", 73, ⟨"StagedCompiler$Types", "isInt", "(I)Z"⟩, "StagedCompiler"), ("StagedCompiler$Compilation", 81, ⟨"StagedCompiler$Types", "holds", "(IJ)Z"⟩, "StagedCompiler"), ("StagedCompiler$Compilation", 85, ⟨"StagedCompiler$Instance", "wasLookedAt", "(I)Z"⟩, "StagedCompiler"), ("StagedCompiler$Compilation", 94, ⟨"StagedCompiler$Instance", "findKnown", "(IIJ)Z"⟩, "StagedCompiler")] : List (String × Nat × MethodName × String)) ++ (([("StagedCompiler$Compilation", 122, ⟨"StagedCompiler$Instance", "find", "(II)Z"⟩, "StagedCompiler"), ("StagedCompiler$Compilation", 138, ⟨"StagedCompiler$Kind", "isWrapOrClamp", "(I)Z"⟩, "StagedCompiler"), ("StagedCompiler$Compilation", 141, ⟨"StagedCompiler$Kind", "isComparison", "(I)Z"⟩, "StagedCompiler"), ("StagedCompiler$Compilation", 148, ⟨"StagedCompiler$Arithmetic", "work", "(IIJJ)J"⟩, "StagedCompiler"), ("StagedCompiler$Compilation", 154, ⟨"StagedCompiler$Arithmetic", "isTrap", "(J)Z"⟩, "StagedCompiler"), ("StagedCompiler$Compilation", 163, ⟨"StagedCompiler$Instance", "findSameAs", "(II)Z"⟩, "StagedCompiler"), ("StagedCompiler$Compilation", 166, ⟨"StagedCompiler$Instance", "typeByCode", "(I)I"⟩, "StagedCompiler"), ("StagedCompiler$Compilation", 170, ⟨"StagedCompiler$Program", "hasFunction", "(I)Z"⟩, "StagedCompiler"), ("StagedCompiler$Instance", 56, ⟨"StagedCompiler$Types", "isByParameter", "(I)Z"⟩, "StagedCompiler"), ("StagedCompiler$Instance", 69, ⟨"StagedCompiler$Types", "holds", "(IJ)Z"⟩, "StagedCompiler"), ("StagedCompiler$Machine", 69, ⟨"StagedCompiler$Arithmetic", "isTrap", "(J)Z"⟩, "StagedCompiler"), ("StagedCompiler$Machine", 81, ⟨"StagedCompiler$Arithmetic", "work", "(IIJJ)J"⟩, "StagedCompiler"), ("StagedCompiler$Machine", 88, ⟨"StagedCompiler$Arithmetic", "checked", "(IJ)J"⟩, "StagedCompiler"), ("StagedCompiler$Machine", 97, ⟨"StagedCompiler$Instance", "isRunParameter", "(I)Z"⟩, "StagedCompiler"), ("StagedCompiler$Arithmetic", 25, ⟨"StagedCompiler$Types", "holds", "(IJ)Z"⟩, "StagedCompiler"), ("StagedCompiler$Arithmetic", 39, ⟨"StagedCompiler$Types", "lowest", "(I)J"⟩, "StagedCompiler"), ("StagedCompiler$Arithmetic", 43, ⟨"StagedCompiler$Types", "highest", "(I)J"⟩, "StagedCompiler")] : List (String × Nat × MethodName × String))) := rfl
  rw [e] at hq
  rcases List.mem_append.mp hq with hq | hq
  · exact nmp_g0 q hq
  exact nmp_g1 q hq

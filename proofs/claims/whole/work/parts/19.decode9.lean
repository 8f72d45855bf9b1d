theorem dX9_init_0 : decode cX9_init 0 = .ok (.aload_n 0, 1) := by decide +kernel
theorem dX9_init_1 : decode cX9_init 1 = .ok (.invokespecial 1, 3) := by decide +kernel
theorem dX9_init_4 : decode cX9_init 4 = .ok (.aload_n 0, 1) := by decide +kernel
theorem dX9_init_5 : decode cX9_init 5 = .ok (.bipush 10, 2) := by decide +kernel
theorem dX9_init_7 : decode cX9_init 7 = .ok (.newarray .int, 2) := by decide +kernel
theorem dX9_init_9 : decode cX9_init 9 = .ok (.putfield 7, 3) := by decide +kernel
theorem dX9_init_12 : decode cX9_init 12 = .ok (.aload_n 0, 1) := by decide +kernel
theorem dX9_init_13 : decode cX9_init 13 = .ok (.bipush 10, 2) := by decide +kernel
theorem dX9_init_15 : decode cX9_init 15 = .ok (.newarray .int, 2) := by decide +kernel
theorem dX9_init_17 : decode cX9_init 17 = .ok (.putfield 13, 3) := by decide +kernel
theorem dX9_init_20 : decode cX9_init 20 = .ok (.aload_n 0, 1) := by decide +kernel
theorem dX9_init_21 : decode cX9_init 21 = .ok (.bipush 12, 2) := by decide +kernel
theorem dX9_init_23 : decode cX9_init 23 = .ok (.newarray .int, 2) := by decide +kernel
theorem dX9_init_25 : decode cX9_init 25 = .ok (.putfield 16, 3) := by decide +kernel
theorem dX9_init_28 : decode cX9_init 28 = .ok (.aload_n 0, 1) := by decide +kernel
theorem dX9_init_29 : decode cX9_init 29 = .ok (.bipush 72, 2) := by decide +kernel
theorem dX9_init_31 : decode cX9_init 31 = .ok (.newarray .int, 2) := by decide +kernel
theorem dX9_init_33 : decode cX9_init 33 = .ok (.putfield 19, 3) := by decide +kernel
theorem dX9_init_36 : decode cX9_init 36 = .ok (.aload_n 0, 1) := by decide +kernel
theorem dX9_init_37 : decode cX9_init 37 = .ok (.bipush 72, 2) := by decide +kernel
theorem dX9_init_39 : decode cX9_init 39 = .ok (.newarray .int, 2) := by decide +kernel
theorem dX9_init_41 : decode cX9_init 41 = .ok (.putfield 22, 3) := by decide +kernel
theorem dX9_init_44 : decode cX9_init 44 = .ok (.aload_n 0, 1) := by decide +kernel
theorem dX9_init_45 : decode cX9_init 45 = .ok (.bipush 72, 2) := by decide +kernel
theorem dX9_init_47 : decode cX9_init 47 = .ok (.newarray .int, 2) := by decide +kernel
theorem dX9_init_49 : decode cX9_init 49 = .ok (.putfield 25, 3) := by decide +kernel
theorem dX9_init_52 : decode cX9_init 52 = .ok (.aload_n 0, 1) := by decide +kernel
theorem dX9_init_53 : decode cX9_init 53 = .ok (.bipush 12, 2) := by decide +kernel
theorem dX9_init_55 : decode cX9_init 55 = .ok (.newarray .int, 2) := by decide +kernel
theorem dX9_init_57 : decode cX9_init 57 = .ok (.putfield 28, 3) := by decide +kernel
theorem dX9_init_60 : decode cX9_init 60 = .ok (.aload_n 0, 1) := by decide +kernel
theorem dX9_init_61 : decode cX9_init 61 = .ok (.bipush 12, 2) := by decide +kernel
theorem dX9_init_63 : decode cX9_init 63 = .ok (.newarray .boolean, 2) := by decide +kernel
theorem dX9_init_65 : decode cX9_init 65 = .ok (.putfield 31, 3) := by decide +kernel
theorem dX9_init_68 : decode cX9_init 68 = .ok (.aload_n 0, 1) := by decide +kernel
theorem dX9_init_69 : decode cX9_init 69 = .ok (.bipush 12, 2) := by decide +kernel
theorem dX9_init_71 : decode cX9_init 71 = .ok (.newarray .boolean, 2) := by decide +kernel
theorem dX9_init_73 : decode cX9_init 73 = .ok (.putfield 35, 3) := by decide +kernel
theorem dX9_init_76 : decode cX9_init 76 = .ok (.aload_n 0, 1) := by decide +kernel
theorem dX9_init_77 : decode cX9_init 77 = .ok (.bipush 8, 2) := by decide +kernel
theorem dX9_init_79 : decode cX9_init 79 = .ok (.newarray .int, 2) := by decide +kernel
theorem dX9_init_81 : decode cX9_init 81 = .ok (.putfield 38, 3) := by decide +kernel
theorem dX9_init_84 : decode cX9_init 84 = .ok (.aload_n 0, 1) := by decide +kernel
theorem dX9_init_85 : decode cX9_init 85 = .ok (.bipush 8, 2) := by decide +kernel
theorem dX9_init_87 : decode cX9_init 87 = .ok (.newarray .int, 2) := by decide +kernel
theorem dX9_init_89 : decode cX9_init 89 = .ok (.putfield 41, 3) := by decide +kernel
theorem dX9_init_92 : decode cX9_init 92 = .ok (.aload_n 0, 1) := by decide +kernel
theorem dX9_init_93 : decode cX9_init 93 = .ok (.bipush 6, 2) := by decide +kernel
theorem dX9_init_95 : decode cX9_init 95 = .ok (.newarray .int, 2) := by decide +kernel
theorem dX9_init_97 : decode cX9_init 97 = .ok (.putfield 44, 3) := by decide +kernel
theorem dX9_init_100 : decode cX9_init 100 = .ok (.aload_n 0, 1) := by decide +kernel
theorem dX9_init_101 : decode cX9_init 101 = .ok (.bipush 6, 2) := by decide +kernel
theorem dX9_init_103 : decode cX9_init 103 = .ok (.newarray .int, 2) := by decide +kernel
theorem dX9_init_105 : decode cX9_init 105 = .ok (.putfield 47, 3) := by decide +kernel
theorem dX9_init_108 : decode cX9_init 108 = .ok (.aload_n 0, 1) := by decide +kernel
theorem dX9_init_109 : decode cX9_init 109 = .ok (.bipush 8, 2) := by decide +kernel
theorem dX9_init_111 : decode cX9_init 111 = .ok (.newarray .int, 2) := by decide +kernel
theorem dX9_init_113 : decode cX9_init 113 = .ok (.putfield 50, 3) := by decide +kernel
theorem dX9_init_116 : decode cX9_init 116 = .ok (.aload_n 0, 1) := by decide +kernel
theorem dX9_init_117 : decode cX9_init 117 = .ok (.iconst 0, 1) := by decide +kernel
theorem dX9_init_118 : decode cX9_init 118 = .ok (.putfield 53, 3) := by decide +kernel
theorem dX9_init_121 : decode cX9_init 121 = .ok (.return_, 1) := by decide +kernel
theorem dX9_thrown_0 : decode cX9_thrown 0 = .ok (.aload_n 0, 1) := by decide +kernel
theorem dX9_thrown_1 : decode cX9_thrown 1 = .ok (.getfield 57, 3) := by decide +kernel
theorem dX9_thrown_4 : decode cX9_thrown 4 = .ok (.ireturn, 1) := by decide +kernel
theorem dX9_goes_0 : decode cX9_goes 0 = .ok (.aload_n 0, 1) := by decide +kernel
theorem dX9_goes_1 : decode cX9_goes 1 = .ok (.iload_n 1, 1) := by decide +kernel
theorem dX9_goes_2 : decode cX9_goes 2 = .ok (.putfield 57, 3) := by decide +kernel
theorem dX9_goes_5 : decode cX9_goes 5 = .ok (.iload_n 1, 1) := by decide +kernel
theorem dX9_goes_6 : decode cX9_goes 6 = .ok (.ifCond .ne 7, 3) := by decide +kernel
theorem dX9_goes_9 : decode cX9_goes 9 = .ok (.iconst 1, 1) := by decide +kernel
theorem dX9_goes_10 : decode cX9_goes 10 = .ok (.goto 4, 3) := by decide +kernel
theorem dX9_goes_13 : decode cX9_goes 13 = .ok (.iconst 0, 1) := by decide +kernel
theorem dX9_goes_14 : decode cX9_goes 14 = .ok (.ireturn, 1) := by decide +kernel
theorem dX9_isIn_0 : decode cX9_isIn 0 = .ok (.iload_n 0, 1) := by decide +kernel
theorem dX9_isIn_1 : decode cX9_isIn 1 = .ok (.iload_n 1, 1) := by decide +kernel
theorem dX9_isIn_2 : decode cX9_isIn 2 = .ok (.if_icmp .lt 12, 3) := by decide +kernel
theorem dX9_isIn_5 : decode cX9_isIn 5 = .ok (.iload_n 0, 1) := by decide +kernel
theorem dX9_isIn_6 : decode cX9_isIn 6 = .ok (.iload_n 2, 1) := by decide +kernel
theorem dX9_isIn_7 : decode cX9_isIn 7 = .ok (.if_icmp .gt 7, 3) := by decide +kernel
theorem dX9_isIn_10 : decode cX9_isIn 10 = .ok (.iconst 1, 1) := by decide +kernel
theorem dX9_isIn_11 : decode cX9_isIn 11 = .ok (.goto 4, 3) := by decide +kernel
theorem dX9_isIn_14 : decode cX9_isIn 14 = .ok (.iconst 0, 1) := by decide +kernel
theorem dX9_isIn_15 : decode cX9_isIn 15 = .ok (.ireturn, 1) := by decide +kernel
theorem dX9_isCone_0 : decode cX9_isCone 0 = .ok (.iload_n 1, 1) := by decide +kernel
theorem dX9_isCone_1 : decode cX9_isCone 1 = .ok (.iconst 0, 1) := by decide +kernel
theorem dX9_isCone_2 : decode cX9_isCone 2 = .ok (.aload_n 0, 1) := by decide +kernel
theorem dX9_isCone_3 : decode cX9_isCone 3 = .ok (.getfield 60, 3) := by decide +kernel
theorem dX9_isCone_6 : decode cX9_isCone 6 = .ok (.iconst 1, 1) := by decide +kernel
theorem dX9_isCone_7 : decode cX9_isCone 7 = .ok (.isub, 1) := by decide +kernel
theorem dX9_isCone_8 : decode cX9_isCone 8 = .ok (.invokestatic 63, 3) := by decide +kernel
theorem dX9_isCone_11 : decode cX9_isCone 11 = .ok (.ireturn, 1) := by decide +kernel
theorem dX9_isBand_0 : decode cX9_isBand 0 = .ok (.aload_n 0, 1) := by decide +kernel
theorem dX9_isBand_1 : decode cX9_isBand 1 = .ok (.iload_n 1, 1) := by decide +kernel
theorem dX9_isBand_2 : decode cX9_isBand 2 = .ok (.invokevirtual 67, 3) := by decide +kernel
theorem dX9_isBand_5 : decode cX9_isBand 5 = .ok (.ifCond .eq 16, 3) := by decide +kernel
theorem dX9_isBand_8 : decode cX9_isBand 8 = .ok (.iload_n 2, 1) := by decide +kernel
theorem dX9_isBand_9 : decode cX9_isBand 9 = .ok (.iconst 0, 1) := by decide +kernel
theorem dX9_isBand_10 : decode cX9_isBand 10 = .ok (.iconst 5, 1) := by decide +kernel
theorem dX9_isBand_11 : decode cX9_isBand 11 = .ok (.invokestatic 63, 3) := by decide +kernel
theorem dX9_isBand_14 : decode cX9_isBand 14 = .ok (.ifCond .eq 7, 3) := by decide +kernel
theorem dX9_isBand_17 : decode cX9_isBand 17 = .ok (.iconst 1, 1) := by decide +kernel
theorem dX9_isBand_18 : decode cX9_isBand 18 = .ok (.goto 4, 3) := by decide +kernel
theorem dX9_isBand_21 : decode cX9_isBand 21 = .ok (.iconst 0, 1) := by decide +kernel
theorem dX9_isBand_22 : decode cX9_isBand 22 = .ok (.ireturn, 1) := by decide +kernel
theorem dX9_letter_0 : decode cX9_letter 0 = .ok (.aload_n 0, 1) := by decide +kernel
theorem dX9_letter_1 : decode cX9_letter 1 = .ok (.iload_n 1, 1) := by decide +kernel
theorem dX9_letter_2 : decode cX9_letter 2 = .ok (.bipush 97, 2) := by decide +kernel
theorem dX9_letter_4 : decode cX9_letter 4 = .ok (.if_icmp .lt 9, 3) := by decide +kernel
theorem dX9_letter_7 : decode cX9_letter 7 = .ok (.iload_n 1, 1) := by decide +kernel
theorem dX9_letter_8 : decode cX9_letter 8 = .ok (.bipush 122, 2) := by decide +kernel
theorem dX9_letter_10 : decode cX9_letter 10 = .ok (.if_icmp .le 7, 3) := by decide +kernel
theorem dX9_letter_13 : decode cX9_letter 13 = .ok (.iconst 1, 1) := by decide +kernel
theorem dX9_letter_14 : decode cX9_letter 14 = .ok (.goto 17, 3) := by decide +kernel
theorem dX9_letter_17 : decode cX9_letter 17 = .ok (.aload_n 0, 1) := by decide +kernel
theorem dX9_letter_18 : decode cX9_letter 18 = .ok (.getfield 71, 3) := by decide +kernel
theorem dX9_letter_21 : decode cX9_letter 21 = .ok (.bipush 7, 2) := by decide +kernel
theorem dX9_letter_23 : decode cX9_letter 23 = .ok (.if_icmp .ne 7, 3) := by decide +kernel
theorem dX9_letter_26 : decode cX9_letter 26 = .ok (.iconst 2, 1) := by decide +kernel
theorem dX9_letter_27 : decode cX9_letter 27 = .ok (.goto 4, 3) := by decide +kernel
theorem dX9_letter_30 : decode cX9_letter 30 = .ok (.iconst 0, 1) := by decide +kernel
theorem dX9_letter_31 : decode cX9_letter 31 = .ok (.invokevirtual 74, 3) := by decide +kernel
theorem dX9_letter_34 : decode cX9_letter 34 = .ok (.ifCond .ne 5, 3) := by decide +kernel
theorem dX9_letter_37 : decode cX9_letter 37 = .ok (.iconst 0, 1) := by decide +kernel
theorem dX9_letter_38 : decode cX9_letter 38 = .ok (.ireturn, 1) := by decide +kernel
theorem dX9_letter_39 : decode cX9_letter 39 = .ok (.aload_n 0, 1) := by decide +kernel
theorem dX9_letter_40 : decode cX9_letter 40 = .ok (.ldc2_w 77, 3) := by decide +kernel
theorem dX9_letter_43 : decode cX9_letter 43 = .ok (.aload_n 0, 1) := by decide +kernel
theorem dX9_letter_44 : decode cX9_letter 44 = .ok (.getfield 79, 3) := by decide +kernel
theorem dX9_letter_47 : decode cX9_letter 47 = .ok (.lmul, 1) := by decide +kernel
theorem dX9_letter_48 : decode cX9_letter 48 = .ok (.iload_n 1, 1) := by decide +kernel
theorem dX9_letter_49 : decode cX9_letter 49 = .ok (.i2l, 1) := by decide +kernel
theorem dX9_letter_50 : decode cX9_letter 50 = .ok (.ladd, 1) := by decide +kernel
theorem dX9_letter_51 : decode cX9_letter 51 = .ok (.ldc2_w 83, 3) := by decide +kernel
theorem dX9_letter_54 : decode cX9_letter 54 = .ok (.lsub, 1) := by decide +kernel
theorem dX9_letter_55 : decode cX9_letter 55 = .ok (.lconst 1, 1) := by decide +kernel
theorem dX9_letter_56 : decode cX9_letter 56 = .ok (.ladd, 1) := by decide +kernel
theorem dX9_letter_57 : decode cX9_letter 57 = .ok (.putfield 79, 3) := by decide +kernel
theorem dX9_letter_60 : decode cX9_letter 60 = .ok (.aload_n 0, 1) := by decide +kernel
theorem dX9_letter_61 : decode cX9_letter 61 = .ok (.dup, 1) := by decide +kernel
theorem dX9_letter_62 : decode cX9_letter 62 = .ok (.getfield 71, 3) := by decide +kernel
theorem dX9_letter_65 : decode cX9_letter 65 = .ok (.iconst 1, 1) := by decide +kernel
theorem dX9_letter_66 : decode cX9_letter 66 = .ok (.iadd, 1) := by decide +kernel
theorem dX9_letter_67 : decode cX9_letter 67 = .ok (.putfield 71, 3) := by decide +kernel
theorem dX9_letter_70 : decode cX9_letter 70 = .ok (.aload_n 0, 1) := by decide +kernel
theorem dX9_letter_71 : decode cX9_letter 71 = .ok (.getfield 71, 3) := by decide +kernel
theorem dX9_letter_74 : decode cX9_letter 74 = .ok (.ireturn, 1) := by decide +kernel
theorem dX9_word_0 : decode cX9_word 0 = .ok (.lconst 0, 1) := by decide +kernel
theorem dX9_word_1 : decode cX9_word 1 = .ok (.lstore 7, 2) := by decide +kernel
theorem dX9_word_3 : decode cX9_word 3 = .ok (.iconst 0, 1) := by decide +kernel
theorem dX9_word_4 : decode cX9_word 4 = .ok (.istore 9, 2) := by decide +kernel
theorem dX9_word_6 : decode cX9_word 6 = .ok (.iload 9, 2) := by decide +kernel
theorem dX9_word_8 : decode cX9_word 8 = .ok (.bipush 7, 2) := by decide +kernel
theorem dX9_word_10 : decode cX9_word 10 = .ok (.if_icmp .ge 104, 3) := by decide +kernel
theorem dX9_word_13 : decode cX9_word 13 = .ok (.iload 9, 2) := by decide +kernel
theorem dX9_word_15 : decode cX9_word 15 = .ok (.ifCond .ne 7, 3) := by decide +kernel
theorem dX9_word_18 : decode cX9_word 18 = .ok (.iload_n 0, 1) := by decide +kernel
theorem dX9_word_19 : decode cX9_word 19 = .ok (.goto 57, 3) := by decide +kernel
theorem dX9_word_22 : decode cX9_word 22 = .ok (.iload 9, 2) := by decide +kernel
theorem dX9_word_24 : decode cX9_word 24 = .ok (.iconst 1, 1) := by decide +kernel
theorem dX9_word_25 : decode cX9_word 25 = .ok (.if_icmp .ne 7, 3) := by decide +kernel
theorem dX9_word_28 : decode cX9_word 28 = .ok (.iload_n 1, 1) := by decide +kernel
theorem dX9_word_29 : decode cX9_word 29 = .ok (.goto 47, 3) := by decide +kernel
theorem dX9_word_32 : decode cX9_word 32 = .ok (.iload 9, 2) := by decide +kernel
theorem dX9_word_34 : decode cX9_word 34 = .ok (.iconst 2, 1) := by decide +kernel
theorem dX9_word_35 : decode cX9_word 35 = .ok (.if_icmp .ne 7, 3) := by decide +kernel
theorem dX9_word_38 : decode cX9_word 38 = .ok (.iload_n 2, 1) := by decide +kernel
theorem dX9_word_39 : decode cX9_word 39 = .ok (.goto 37, 3) := by decide +kernel
theorem dX9_word_42 : decode cX9_word 42 = .ok (.iload 9, 2) := by decide +kernel
theorem dX9_word_44 : decode cX9_word 44 = .ok (.iconst 3, 1) := by decide +kernel
theorem dX9_word_45 : decode cX9_word 45 = .ok (.if_icmp .ne 7, 3) := by decide +kernel
theorem dX9_word_48 : decode cX9_word 48 = .ok (.iload_n 3, 1) := by decide +kernel
theorem dX9_word_49 : decode cX9_word 49 = .ok (.goto 27, 3) := by decide +kernel
theorem dX9_word_52 : decode cX9_word 52 = .ok (.iload 9, 2) := by decide +kernel
theorem dX9_word_54 : decode cX9_word 54 = .ok (.iconst 4, 1) := by decide +kernel
theorem dX9_word_55 : decode cX9_word 55 = .ok (.if_icmp .ne 8, 3) := by decide +kernel
theorem dX9_word_58 : decode cX9_word 58 = .ok (.iload 4, 2) := by decide +kernel
theorem dX9_word_60 : decode cX9_word 60 = .ok (.goto 16, 3) := by decide +kernel
theorem dX9_word_63 : decode cX9_word 63 = .ok (.iload 9, 2) := by decide +kernel
theorem dX9_word_65 : decode cX9_word 65 = .ok (.iconst 5, 1) := by decide +kernel
theorem dX9_word_66 : decode cX9_word 66 = .ok (.if_icmp .ne 8, 3) := by decide +kernel
theorem dX9_word_69 : decode cX9_word 69 = .ok (.iload 5, 2) := by decide +kernel
theorem dX9_word_71 : decode cX9_word 71 = .ok (.goto 5, 3) := by decide +kernel
theorem dX9_word_74 : decode cX9_word 74 = .ok (.iload 6, 2) := by decide +kernel
theorem dX9_word_76 : decode cX9_word 76 = .ok (.istore 10, 2) := by decide +kernel
theorem dX9_word_78 : decode cX9_word 78 = .ok (.iload 10, 2) := by decide +kernel
theorem dX9_word_80 : decode cX9_word 80 = .ok (.bipush 32, 2) := by decide +kernel
theorem dX9_word_82 : decode cX9_word 82 = .ok (.if_icmp .ne 8, 3) := by decide +kernel
theorem dX9_word_85 : decode cX9_word 85 = .ok (.lload 7, 2) := by decide +kernel
theorem dX9_word_87 : decode cX9_word 87 = .ok (.goto 19, 3) := by decide +kernel
theorem dX9_word_90 : decode cX9_word 90 = .ok (.ldc2_w 77, 3) := by decide +kernel
theorem dX9_word_93 : decode cX9_word 93 = .ok (.lload 7, 2) := by decide +kernel
theorem dX9_word_95 : decode cX9_word 95 = .ok (.lmul, 1) := by decide +kernel
theorem dX9_word_96 : decode cX9_word 96 = .ok (.iload 10, 2) := by decide +kernel
theorem dX9_word_98 : decode cX9_word 98 = .ok (.i2l, 1) := by decide +kernel
theorem dX9_word_99 : decode cX9_word 99 = .ok (.ladd, 1) := by decide +kernel
theorem dX9_word_100 : decode cX9_word 100 = .ok (.ldc2_w 83, 3) := by decide +kernel
theorem dX9_word_103 : decode cX9_word 103 = .ok (.lsub, 1) := by decide +kernel
theorem dX9_word_104 : decode cX9_word 104 = .ok (.lconst 1, 1) := by decide +kernel
theorem dX9_word_105 : decode cX9_word 105 = .ok (.ladd, 1) := by decide +kernel
theorem dX9_word_106 : decode cX9_word 106 = .ok (.lstore 7, 2) := by decide +kernel
theorem dX9_word_108 : decode cX9_word 108 = .ok (.iinc 9 1, 3) := by decide +kernel
theorem dX9_word_111 : decode cX9_word 111 = .ok (.goto (-105), 3) := by decide +kernel
theorem dX9_word_114 : decode cX9_word 114 = .ok (.lload 7, 2) := by decide +kernel
theorem dX9_word_116 : decode cX9_word 116 = .ok (.lreturn, 1) := by decide +kernel
theorem dX9_empties_0 : decode cX9_empties 0 = .ok (.aload_n 0, 1) := by decide +kernel
theorem dX9_empties_1 : decode cX9_empties 1 = .ok (.lconst 0, 1) := by decide +kernel
theorem dX9_empties_2 : decode cX9_empties 2 = .ok (.putfield 79, 3) := by decide +kernel
theorem dX9_empties_5 : decode cX9_empties 5 = .ok (.aload_n 0, 1) := by decide +kernel
theorem dX9_empties_6 : decode cX9_empties 6 = .ok (.iconst 0, 1) := by decide +kernel
theorem dX9_empties_7 : decode cX9_empties 7 = .ok (.putfield 71, 3) := by decide +kernel
theorem dX9_empties_10 : decode cX9_empties 10 = .ok (.return_, 1) := by decide +kernel
theorem dX9_fur_0 : decode cX9_fur 0 = .ok (.aload_n 0, 1) := by decide +kernel
theorem dX9_fur_1 : decode cX9_fur 1 = .ok (.getfield 79, 3) := by decide +kernel
theorem dX9_fur_4 : decode cX9_fur 4 = .ok (.bipush 114, 2) := by decide +kernel
theorem dX9_fur_6 : decode cX9_fur 6 = .ok (.bipush 97, 2) := by decide +kernel
theorem dX9_fur_8 : decode cX9_fur 8 = .ok (.bipush 98, 2) := by decide +kernel
theorem dX9_fur_10 : decode cX9_fur 10 = .ok (.bipush 98, 2) := by decide +kernel
theorem dX9_fur_12 : decode cX9_fur 12 = .ok (.bipush 105, 2) := by decide +kernel
theorem dX9_fur_14 : decode cX9_fur 14 = .ok (.bipush 116, 2) := by decide +kernel
theorem dX9_fur_16 : decode cX9_fur 16 = .ok (.bipush 32, 2) := by decide +kernel
theorem dX9_fur_18 : decode cX9_fur 18 = .ok (.invokestatic 85, 3) := by decide +kernel
theorem dX9_fur_21 : decode cX9_fur 21 = .ok (.lcmp, 1) := by decide +kernel
theorem dX9_fur_22 : decode cX9_fur 22 = .ok (.ifCond .ne 7, 3) := by decide +kernel
theorem dX9_fur_25 : decode cX9_fur 25 = .ok (.iconst 0, 1) := by decide +kernel
theorem dX9_fur_26 : decode cX9_fur 26 = .ok (.goto 91, 3) := by decide +kernel
theorem dX9_fur_29 : decode cX9_fur 29 = .ok (.aload_n 0, 1) := by decide +kernel
theorem dX9_fur_30 : decode cX9_fur 30 = .ok (.getfield 79, 3) := by decide +kernel
theorem dX9_fur_33 : decode cX9_fur 33 = .ok (.bipush 119, 2) := by decide +kernel
theorem dX9_fur_35 : decode cX9_fur 35 = .ok (.bipush 111, 2) := by decide +kernel
theorem dX9_fur_37 : decode cX9_fur 37 = .ok (.bipush 111, 2) := by decide +kernel
theorem dX9_fur_39 : decode cX9_fur 39 = .ok (.bipush 108, 2) := by decide +kernel
theorem dX9_fur_41 : decode cX9_fur 41 = .ok (.bipush 32, 2) := by decide +kernel
theorem dX9_fur_43 : decode cX9_fur 43 = .ok (.bipush 32, 2) := by decide +kernel
theorem dX9_fur_45 : decode cX9_fur 45 = .ok (.bipush 32, 2) := by decide +kernel
theorem dX9_fur_47 : decode cX9_fur 47 = .ok (.invokestatic 85, 3) := by decide +kernel
theorem dX9_fur_50 : decode cX9_fur 50 = .ok (.lcmp, 1) := by decide +kernel
theorem dX9_fur_51 : decode cX9_fur 51 = .ok (.ifCond .ne 7, 3) := by decide +kernel
theorem dX9_fur_54 : decode cX9_fur 54 = .ok (.iconst 1, 1) := by decide +kernel
theorem dX9_fur_55 : decode cX9_fur 55 = .ok (.goto 62, 3) := by decide +kernel
theorem dX9_fur_58 : decode cX9_fur 58 = .ok (.aload_n 0, 1) := by decide +kernel
theorem dX9_fur_59 : decode cX9_fur 59 = .ok (.getfield 79, 3) := by decide +kernel
theorem dX9_fur_62 : decode cX9_fur 62 = .ok (.bipush 98, 2) := by decide +kernel
theorem dX9_fur_64 : decode cX9_fur 64 = .ok (.bipush 101, 2) := by decide +kernel
theorem dX9_fur_66 : decode cX9_fur 66 = .ok (.bipush 97, 2) := by decide +kernel
theorem dX9_fur_68 : decode cX9_fur 68 = .ok (.bipush 118, 2) := by decide +kernel
theorem dX9_fur_70 : decode cX9_fur 70 = .ok (.bipush 101, 2) := by decide +kernel
theorem dX9_fur_72 : decode cX9_fur 72 = .ok (.bipush 114, 2) := by decide +kernel
theorem dX9_fur_74 : decode cX9_fur 74 = .ok (.bipush 32, 2) := by decide +kernel
theorem dX9_fur_76 : decode cX9_fur 76 = .ok (.invokestatic 85, 3) := by decide +kernel
theorem dX9_fur_79 : decode cX9_fur 79 = .ok (.lcmp, 1) := by decide +kernel
theorem dX9_fur_80 : decode cX9_fur 80 = .ok (.ifCond .ne 7, 3) := by decide +kernel
theorem dX9_fur_83 : decode cX9_fur 83 = .ok (.iconst 2, 1) := by decide +kernel
theorem dX9_fur_84 : decode cX9_fur 84 = .ok (.goto 33, 3) := by decide +kernel
theorem dX9_fur_87 : decode cX9_fur 87 = .ok (.aload_n 0, 1) := by decide +kernel
theorem dX9_fur_88 : decode cX9_fur 88 = .ok (.getfield 79, 3) := by decide +kernel
theorem dX9_fur_91 : decode cX9_fur 91 = .ok (.bipush 104, 2) := by decide +kernel
theorem dX9_fur_93 : decode cX9_fur 93 = .ok (.bipush 97, 2) := by decide +kernel
theorem dX9_fur_95 : decode cX9_fur 95 = .ok (.bipush 114, 2) := by decide +kernel
theorem dX9_fur_97 : decode cX9_fur 97 = .ok (.bipush 101, 2) := by decide +kernel
theorem dX9_fur_99 : decode cX9_fur 99 = .ok (.bipush 32, 2) := by decide +kernel
theorem dX9_fur_101 : decode cX9_fur 101 = .ok (.bipush 32, 2) := by decide +kernel
theorem dX9_fur_103 : decode cX9_fur 103 = .ok (.bipush 32, 2) := by decide +kernel
theorem dX9_fur_105 : decode cX9_fur 105 = .ok (.invokestatic 85, 3) := by decide +kernel
theorem dX9_fur_108 : decode cX9_fur 108 = .ok (.lcmp, 1) := by decide +kernel
theorem dX9_fur_109 : decode cX9_fur 109 = .ok (.ifCond .ne 7, 3) := by decide +kernel
theorem dX9_fur_112 : decode cX9_fur 112 = .ok (.iconst 3, 1) := by decide +kernel
theorem dX9_fur_113 : decode cX9_fur 113 = .ok (.goto 4, 3) := by decide +kernel
theorem dX9_fur_116 : decode cX9_fur 116 = .ok (.iconst (-1), 1) := by decide +kernel
theorem dX9_fur_117 : decode cX9_fur 117 = .ok (.ireturn, 1) := by decide +kernel
theorem dX9_feather_0 : decode cX9_feather 0 = .ok (.aload_n 0, 1) := by decide +kernel
theorem dX9_feather_1 : decode cX9_feather 1 = .ok (.getfield 79, 3) := by decide +kernel
theorem dX9_feather_4 : decode cX9_feather 4 = .ok (.bipush 111, 2) := by decide +kernel
theorem dX9_feather_6 : decode cX9_feather 6 = .ok (.bipush 115, 2) := by decide +kernel
theorem dX9_feather_8 : decode cX9_feather 8 = .ok (.bipush 116, 2) := by decide +kernel
theorem dX9_feather_10 : decode cX9_feather 10 = .ok (.bipush 114, 2) := by decide +kernel
theorem dX9_feather_12 : decode cX9_feather 12 = .ok (.bipush 105, 2) := by decide +kernel
theorem dX9_feather_14 : decode cX9_feather 14 = .ok (.bipush 99, 2) := by decide +kernel
theorem dX9_feather_16 : decode cX9_feather 16 = .ok (.bipush 104, 2) := by decide +kernel
theorem dX9_feather_18 : decode cX9_feather 18 = .ok (.invokestatic 85, 3) := by decide +kernel
theorem dX9_feather_21 : decode cX9_feather 21 = .ok (.lcmp, 1) := by decide +kernel
theorem dX9_feather_22 : decode cX9_feather 22 = .ok (.ifCond .ne 8, 3) := by decide +kernel
theorem dX9_feather_25 : decode cX9_feather 25 = .ok (.ldc 89, 2) := by decide +kernel
theorem dX9_feather_27 : decode cX9_feather 27 = .ok (.goto 62, 3) := by decide +kernel
theorem dX9_feather_30 : decode cX9_feather 30 = .ok (.aload_n 0, 1) := by decide +kernel
theorem dX9_feather_31 : decode cX9_feather 31 = .ok (.getfield 79, 3) := by decide +kernel
theorem dX9_feather_34 : decode cX9_feather 34 = .ok (.bipush 101, 2) := by decide +kernel
theorem dX9_feather_36 : decode cX9_feather 36 = .ok (.bipush 103, 2) := by decide +kernel
theorem dX9_feather_38 : decode cX9_feather 38 = .ok (.bipush 114, 2) := by decide +kernel
theorem dX9_feather_40 : decode cX9_feather 40 = .ok (.bipush 101, 2) := by decide +kernel
theorem dX9_feather_42 : decode cX9_feather 42 = .ok (.bipush 116, 2) := by decide +kernel
theorem dX9_feather_44 : decode cX9_feather 44 = .ok (.bipush 32, 2) := by decide +kernel
theorem dX9_feather_46 : decode cX9_feather 46 = .ok (.bipush 32, 2) := by decide +kernel
theorem dX9_feather_48 : decode cX9_feather 48 = .ok (.invokestatic 85, 3) := by decide +kernel
theorem dX9_feather_51 : decode cX9_feather 51 = .ok (.lcmp, 1) := by decide +kernel
theorem dX9_feather_52 : decode cX9_feather 52 = .ok (.ifCond .ne 7, 3) := by decide +kernel
theorem dX9_feather_55 : decode cX9_feather 55 = .ok (.iconst 5, 1) := by decide +kernel
theorem dX9_feather_56 : decode cX9_feather 56 = .ok (.goto 33, 3) := by decide +kernel
theorem dX9_feather_59 : decode cX9_feather 59 = .ok (.aload_n 0, 1) := by decide +kernel
theorem dX9_feather_60 : decode cX9_feather 60 = .ok (.getfield 79, 3) := by decide +kernel
theorem dX9_feather_63 : decode cX9_feather 63 = .ok (.bipush 101, 2) := by decide +kernel
theorem dX9_feather_65 : decode cX9_feather 65 = .ok (.bipush 97, 2) := by decide +kernel
theorem dX9_feather_67 : decode cX9_feather 67 = .ok (.bipush 103, 2) := by decide +kernel
theorem dX9_feather_69 : decode cX9_feather 69 = .ok (.bipush 108, 2) := by decide +kernel
theorem dX9_feather_71 : decode cX9_feather 71 = .ok (.bipush 101, 2) := by decide +kernel
theorem dX9_feather_73 : decode cX9_feather 73 = .ok (.bipush 32, 2) := by decide +kernel
theorem dX9_feather_75 : decode cX9_feather 75 = .ok (.bipush 32, 2) := by decide +kernel
theorem dX9_feather_77 : decode cX9_feather 77 = .ok (.invokestatic 85, 3) := by decide +kernel
theorem dX9_feather_80 : decode cX9_feather 80 = .ok (.lcmp, 1) := by decide +kernel
theorem dX9_feather_81 : decode cX9_feather 81 = .ok (.ifCond .ne 7, 3) := by decide +kernel
theorem dX9_feather_84 : decode cX9_feather 84 = .ok (.iconst 2, 1) := by decide +kernel
theorem dX9_feather_85 : decode cX9_feather 85 = .ok (.goto 4, 3) := by decide +kernel
theorem dX9_feather_88 : decode cX9_feather 88 = .ok (.iconst 0, 1) := by decide +kernel
theorem dX9_feather_89 : decode cX9_feather 89 = .ok (.ireturn, 1) := by decide +kernel
theorem dX9_kind_0 : decode cX9_kind 0 = .ok (.aload_n 0, 1) := by decide +kernel
theorem dX9_kind_1 : decode cX9_kind 1 = .ok (.getfield 79, 3) := by decide +kernel
theorem dX9_kind_4 : decode cX9_kind 4 = .ok (.bipush 102, 2) := by decide +kernel
theorem dX9_kind_6 : decode cX9_kind 6 = .ok (.bipush 108, 2) := by decide +kernel
theorem dX9_kind_8 : decode cX9_kind 8 = .ok (.bipush 97, 2) := by decide +kernel
theorem dX9_kind_10 : decode cX9_kind 10 = .ok (.bipush 116, 2) := by decide +kernel
theorem dX9_kind_12 : decode cX9_kind 12 = .ok (.bipush 32, 2) := by decide +kernel
theorem dX9_kind_14 : decode cX9_kind 14 = .ok (.bipush 32, 2) := by decide +kernel
theorem dX9_kind_16 : decode cX9_kind 16 = .ok (.bipush 32, 2) := by decide +kernel
theorem dX9_kind_18 : decode cX9_kind 18 = .ok (.invokestatic 85, 3) := by decide +kernel
theorem dX9_kind_21 : decode cX9_kind 21 = .ok (.lcmp, 1) := by decide +kernel
theorem dX9_kind_22 : decode cX9_kind 22 = .ok (.ifCond .ne 7, 3) := by decide +kernel
theorem dX9_kind_25 : decode cX9_kind 25 = .ok (.iconst 0, 1) := by decide +kernel
theorem dX9_kind_26 : decode cX9_kind 26 = .ok (.goto 91, 3) := by decide +kernel
theorem dX9_kind_29 : decode cX9_kind 29 = .ok (.aload_n 0, 1) := by decide +kernel
theorem dX9_kind_30 : decode cX9_kind 30 = .ok (.getfield 79, 3) := by decide +kernel
theorem dX9_kind_33 : decode cX9_kind 33 = .ok (.bipush 99, 2) := by decide +kernel
theorem dX9_kind_35 : decode cX9_kind 35 = .ok (.bipush 111, 2) := by decide +kernel
theorem dX9_kind_37 : decode cX9_kind 37 = .ok (.bipush 110, 2) := by decide +kernel
theorem dX9_kind_39 : decode cX9_kind 39 = .ok (.bipush 101, 2) := by decide +kernel
theorem dX9_kind_41 : decode cX9_kind 41 = .ok (.bipush 32, 2) := by decide +kernel
theorem dX9_kind_43 : decode cX9_kind 43 = .ok (.bipush 32, 2) := by decide +kernel
theorem dX9_kind_45 : decode cX9_kind 45 = .ok (.bipush 32, 2) := by decide +kernel
theorem dX9_kind_47 : decode cX9_kind 47 = .ok (.invokestatic 85, 3) := by decide +kernel
theorem dX9_kind_50 : decode cX9_kind 50 = .ok (.lcmp, 1) := by decide +kernel
theorem dX9_kind_51 : decode cX9_kind 51 = .ok (.ifCond .ne 7, 3) := by decide +kernel
theorem dX9_kind_54 : decode cX9_kind 54 = .ok (.iconst 1, 1) := by decide +kernel
theorem dX9_kind_55 : decode cX9_kind 55 = .ok (.goto 62, 3) := by decide +kernel
theorem dX9_kind_58 : decode cX9_kind 58 = .ok (.aload_n 0, 1) := by decide +kernel
theorem dX9_kind_59 : decode cX9_kind 59 = .ok (.getfield 79, 3) := by decide +kernel
theorem dX9_kind_62 : decode cX9_kind 62 = .ok (.bipush 100, 2) := by decide +kernel
theorem dX9_kind_64 : decode cX9_kind 64 = .ok (.bipush 111, 2) := by decide +kernel
theorem dX9_kind_66 : decode cX9_kind 66 = .ok (.bipush 109, 2) := by decide +kernel
theorem dX9_kind_68 : decode cX9_kind 68 = .ok (.bipush 101, 2) := by decide +kernel
theorem dX9_kind_70 : decode cX9_kind 70 = .ok (.bipush 32, 2) := by decide +kernel
theorem dX9_kind_72 : decode cX9_kind 72 = .ok (.bipush 32, 2) := by decide +kernel
theorem dX9_kind_74 : decode cX9_kind 74 = .ok (.bipush 32, 2) := by decide +kernel
theorem dX9_kind_76 : decode cX9_kind 76 = .ok (.invokestatic 85, 3) := by decide +kernel
theorem dX9_kind_79 : decode cX9_kind 79 = .ok (.lcmp, 1) := by decide +kernel
theorem dX9_kind_80 : decode cX9_kind 80 = .ok (.ifCond .ne 7, 3) := by decide +kernel
theorem dX9_kind_83 : decode cX9_kind 83 = .ok (.iconst 2, 1) := by decide +kernel
theorem dX9_kind_84 : decode cX9_kind 84 = .ok (.goto 33, 3) := by decide +kernel
theorem dX9_kind_87 : decode cX9_kind 87 = .ok (.aload_n 0, 1) := by decide +kernel
theorem dX9_kind_88 : decode cX9_kind 88 = .ok (.getfield 79, 3) := by decide +kernel
theorem dX9_kind_91 : decode cX9_kind 91 = .ok (.bipush 98, 2) := by decide +kernel
theorem dX9_kind_93 : decode cX9_kind 93 = .ok (.bipush 114, 2) := by decide +kernel
theorem dX9_kind_95 : decode cX9_kind 95 = .ok (.bipush 105, 2) := by decide +kernel
theorem dX9_kind_97 : decode cX9_kind 97 = .ok (.bipush 109, 2) := by decide +kernel
theorem dX9_kind_99 : decode cX9_kind 99 = .ok (.bipush 32, 2) := by decide +kernel
theorem dX9_kind_101 : decode cX9_kind 101 = .ok (.bipush 32, 2) := by decide +kernel
theorem dX9_kind_103 : decode cX9_kind 103 = .ok (.bipush 32, 2) := by decide +kernel
theorem dX9_kind_105 : decode cX9_kind 105 = .ok (.invokestatic 85, 3) := by decide +kernel
theorem dX9_kind_108 : decode cX9_kind 108 = .ok (.lcmp, 1) := by decide +kernel
theorem dX9_kind_109 : decode cX9_kind 109 = .ok (.ifCond .ne 7, 3) := by decide +kernel
theorem dX9_kind_112 : decode cX9_kind 112 = .ok (.iconst 3, 1) := by decide +kernel
theorem dX9_kind_113 : decode cX9_kind 113 = .ok (.goto 4, 3) := by decide +kernel
theorem dX9_kind_116 : decode cX9_kind 116 = .ok (.iconst (-1), 1) := by decide +kernel
theorem dX9_kind_117 : decode cX9_kind 117 = .ok (.ireturn, 1) := by decide +kernel
theorem dX9_across_0 : decode cX9_across 0 = .ok (.iload_n 0, 1) := by decide +kernel
theorem dX9_across_1 : decode cX9_across 1 = .ok (.ifCond .ne 8, 3) := by decide +kernel
theorem dX9_across_4 : decode cX9_across 4 = .ok (.bipush 8, 2) := by decide +kernel
theorem dX9_across_6 : decode cX9_across 6 = .ok (.goto 24, 3) := by decide +kernel
theorem dX9_across_9 : decode cX9_across 9 = .ok (.iload_n 0, 1) := by decide +kernel
theorem dX9_across_10 : decode cX9_across 10 = .ok (.iconst 1, 1) := by decide +kernel
theorem dX9_across_11 : decode cX9_across 11 = .ok (.if_icmp .ne 8, 3) := by decide +kernel
theorem dX9_across_14 : decode cX9_across 14 = .ok (.bipush 10, 2) := by decide +kernel
theorem dX9_across_16 : decode cX9_across 16 = .ok (.goto 14, 3) := by decide +kernel
theorem dX9_across_19 : decode cX9_across 19 = .ok (.iload_n 0, 1) := by decide +kernel
theorem dX9_across_20 : decode cX9_across 20 = .ok (.iconst 2, 1) := by decide +kernel
theorem dX9_across_21 : decode cX9_across 21 = .ok (.if_icmp .ne 7, 3) := by decide +kernel
theorem dX9_across_24 : decode cX9_across 24 = .ok (.iconst 5, 1) := by decide +kernel
theorem dX9_across_25 : decode cX9_across 25 = .ok (.goto 5, 3) := by decide +kernel
theorem dX9_across_28 : decode cX9_across 28 = .ok (.bipush 7, 2) := by decide +kernel
theorem dX9_across_30 : decode cX9_across 30 = .ok (.ireturn, 1) := by decide +kernel
theorem dX9_along_0 : decode cX9_along 0 = .ok (.iload_n 0, 1) := by decide +kernel
theorem dX9_along_1 : decode cX9_along 1 = .ok (.ifCond .ne 8, 3) := by decide +kernel
theorem dX9_along_4 : decode cX9_along 4 = .ok (.bipush 6, 2) := by decide +kernel
theorem dX9_along_6 : decode cX9_along 6 = .ok (.goto 24, 3) := by decide +kernel
theorem dX9_along_9 : decode cX9_along 9 = .ok (.iload_n 0, 1) := by decide +kernel
theorem dX9_along_10 : decode cX9_along 10 = .ok (.iconst 1, 1) := by decide +kernel
theorem dX9_along_11 : decode cX9_along 11 = .ok (.if_icmp .ne 8, 3) := by decide +kernel
theorem dX9_along_14 : decode cX9_along 14 = .ok (.bipush 9, 2) := by decide +kernel
theorem dX9_along_16 : decode cX9_along 16 = .ok (.goto 14, 3) := by decide +kernel
theorem dX9_along_19 : decode cX9_along 19 = .ok (.iload_n 0, 1) := by decide +kernel
theorem dX9_along_20 : decode cX9_along 20 = .ok (.iconst 2, 1) := by decide +kernel
theorem dX9_along_21 : decode cX9_along 21 = .ok (.if_icmp .ne 7, 3) := by decide +kernel
theorem dX9_along_24 : decode cX9_along 24 = .ok (.iconst 5, 1) := by decide +kernel
theorem dX9_along_25 : decode cX9_along 25 = .ok (.goto 5, 3) := by decide +kernel
theorem dX9_along_28 : decode cX9_along 28 = .ok (.bipush 6, 2) := by decide +kernel
theorem dX9_along_30 : decode cX9_along 30 = .ok (.ireturn, 1) := by decide +kernel
theorem dX9_strain_0 : decode cX9_strain 0 = .ok (.iload_n 0, 1) := by decide +kernel
theorem dX9_strain_1 : decode cX9_strain 1 = .ok (.ifCond .ne 8, 3) := by decide +kernel
theorem dX9_strain_4 : decode cX9_strain 4 = .ok (.bipush 20, 2) := by decide +kernel
theorem dX9_strain_6 : decode cX9_strain 6 = .ok (.goto 25, 3) := by decide +kernel
theorem dX9_strain_9 : decode cX9_strain 9 = .ok (.iload_n 0, 1) := by decide +kernel
theorem dX9_strain_10 : decode cX9_strain 10 = .ok (.iconst 1, 1) := by decide +kernel
theorem dX9_strain_11 : decode cX9_strain 11 = .ok (.if_icmp .ne 8, 3) := by decide +kernel
theorem dX9_strain_14 : decode cX9_strain 14 = .ok (.bipush 15, 2) := by decide +kernel
theorem dX9_strain_16 : decode cX9_strain 16 = .ok (.goto 15, 3) := by decide +kernel
theorem dX9_strain_19 : decode cX9_strain 19 = .ok (.iload_n 0, 1) := by decide +kernel
theorem dX9_strain_20 : decode cX9_strain 20 = .ok (.iconst 2, 1) := by decide +kernel
theorem dX9_strain_21 : decode cX9_strain 21 = .ok (.if_icmp .ne 8, 3) := by decide +kernel
theorem dX9_strain_24 : decode cX9_strain 24 = .ok (.bipush 35, 2) := by decide +kernel
theorem dX9_strain_26 : decode cX9_strain 26 = .ok (.goto 5, 3) := by decide +kernel
theorem dX9_strain_29 : decode cX9_strain 29 = .ok (.bipush 25, 2) := by decide +kernel
theorem dX9_strain_31 : decode cX9_strain 31 = .ok (.ireturn, 1) := by decide +kernel
theorem dX9_airOf_0 : decode cX9_airOf 0 = .ok (.iload_n 0, 1) := by decide +kernel
theorem dX9_airOf_1 : decode cX9_airOf 1 = .ok (.ifCond .ne 8, 3) := by decide +kernel
theorem dX9_airOf_4 : decode cX9_airOf 4 = .ok (.bipush 8, 2) := by decide +kernel
theorem dX9_airOf_6 : decode cX9_airOf 6 = .ok (.goto 23, 3) := by decide +kernel
theorem dX9_airOf_9 : decode cX9_airOf 9 = .ok (.iload_n 0, 1) := by decide +kernel
theorem dX9_airOf_10 : decode cX9_airOf 10 = .ok (.iconst 1, 1) := by decide +kernel
theorem dX9_airOf_11 : decode cX9_airOf 11 = .ok (.if_icmp .ne 7, 3) := by decide +kernel
theorem dX9_airOf_14 : decode cX9_airOf 14 = .ok (.iconst 2, 1) := by decide +kernel
theorem dX9_airOf_15 : decode cX9_airOf 15 = .ok (.goto 14, 3) := by decide +kernel
theorem dX9_airOf_18 : decode cX9_airOf 18 = .ok (.iload_n 0, 1) := by decide +kernel
theorem dX9_airOf_19 : decode cX9_airOf 19 = .ok (.iconst 2, 1) := by decide +kernel
theorem dX9_airOf_20 : decode cX9_airOf 20 = .ok (.if_icmp .ne 7, 3) := by decide +kernel
theorem dX9_airOf_23 : decode cX9_airOf 23 = .ok (.iconst 5, 1) := by decide +kernel
theorem dX9_airOf_24 : decode cX9_airOf 24 = .ok (.goto 5, 3) := by decide +kernel
theorem dX9_airOf_27 : decode cX9_airOf 27 = .ok (.bipush 12, 2) := by decide +kernel
theorem dX9_airOf_29 : decode cX9_airOf 29 = .ok (.ireturn, 1) := by decide +kernel
theorem dX9_lot_0 : decode cX9_lot 0 = .ok (.aload_n 0, 1) := by decide +kernel
theorem dX9_lot_1 : decode cX9_lot 1 = .ok (.iload_n 1, 1) := by decide +kernel
theorem dX9_lot_2 : decode cX9_lot 2 = .ok (.iconst 1, 1) := by decide +kernel
theorem dX9_lot_3 : decode cX9_lot 3 = .ok (.sipush 5000, 3) := by decide +kernel
theorem dX9_lot_6 : decode cX9_lot 6 = .ok (.invokestatic 63, 3) := by decide +kernel
theorem dX9_lot_9 : decode cX9_lot 9 = .ok (.ifCond .ne 7, 3) := by decide +kernel
theorem dX9_lot_12 : decode cX9_lot 12 = .ok (.iconst 1, 1) := by decide +kernel
theorem dX9_lot_13 : decode cX9_lot 13 = .ok (.goto 17, 3) := by decide +kernel
theorem dX9_lot_16 : decode cX9_lot 16 = .ok (.aload_n 0, 1) := by decide +kernel
theorem dX9_lot_17 : decode cX9_lot 17 = .ok (.getfield 90, 3) := by decide +kernel
theorem dX9_lot_20 : decode cX9_lot 20 = .ok (.bipush 10, 2) := by decide +kernel
theorem dX9_lot_22 : decode cX9_lot 22 = .ok (.if_icmp .ne 7, 3) := by decide +kernel
theorem dX9_lot_25 : decode cX9_lot 25 = .ok (.iconst 2, 1) := by decide +kernel
theorem dX9_lot_26 : decode cX9_lot 26 = .ok (.goto 4, 3) := by decide +kernel
theorem dX9_lot_29 : decode cX9_lot 29 = .ok (.iconst 0, 1) := by decide +kernel
theorem dX9_lot_30 : decode cX9_lot 30 = .ok (.invokevirtual 74, 3) := by decide +kernel
theorem dX9_lot_33 : decode cX9_lot 33 = .ok (.ifCond .ne 5, 3) := by decide +kernel
theorem dX9_lot_36 : decode cX9_lot 36 = .ok (.iconst 0, 1) := by decide +kernel
theorem dX9_lot_37 : decode cX9_lot 37 = .ok (.ireturn, 1) := by decide +kernel
theorem dX9_lot_38 : decode cX9_lot 38 = .ok (.aload_n 0, 1) := by decide +kernel
theorem dX9_lot_39 : decode cX9_lot 39 = .ok (.invokevirtual 93, 3) := by decide +kernel
theorem dX9_lot_42 : decode cX9_lot 42 = .ok (.istore_n 2, 1) := by decide +kernel
theorem dX9_lot_43 : decode cX9_lot 43 = .ok (.aload_n 0, 1) := by decide +kernel
theorem dX9_lot_44 : decode cX9_lot 44 = .ok (.invokevirtual 97, 3) := by decide +kernel
theorem dX9_lot_47 : decode cX9_lot 47 = .ok (.iload_n 2, 1) := by decide +kernel
theorem dX9_lot_48 : decode cX9_lot 48 = .ok (.iconst (-1), 1) := by decide +kernel
theorem dX9_lot_49 : decode cX9_lot 49 = .ok (.if_icmp .ne 5, 3) := by decide +kernel
theorem dX9_lot_52 : decode cX9_lot 52 = .ok (.iconst (-1), 1) := by decide +kernel
theorem dX9_lot_53 : decode cX9_lot 53 = .ok (.ireturn, 1) := by decide +kernel
theorem dX9_lot_54 : decode cX9_lot 54 = .ok (.aload_n 0, 1) := by decide +kernel
theorem dX9_lot_55 : decode cX9_lot 55 = .ok (.getfield 7, 3) := by decide +kernel
theorem dX9_lot_58 : decode cX9_lot 58 = .ok (.aload_n 0, 1) := by decide +kernel
theorem dX9_lot_59 : decode cX9_lot 59 = .ok (.getfield 90, 3) := by decide +kernel
theorem dX9_lot_62 : decode cX9_lot 62 = .ok (.iload_n 2, 1) := by decide +kernel
theorem dX9_lot_63 : decode cX9_lot 63 = .ok (.iastore, 1) := by decide +kernel
theorem dX9_lot_64 : decode cX9_lot 64 = .ok (.aload_n 0, 1) := by decide +kernel
theorem dX9_lot_65 : decode cX9_lot 65 = .ok (.getfield 13, 3) := by decide +kernel
theorem dX9_lot_68 : decode cX9_lot 68 = .ok (.aload_n 0, 1) := by decide +kernel
theorem dX9_lot_69 : decode cX9_lot 69 = .ok (.getfield 90, 3) := by decide +kernel
theorem dX9_lot_72 : decode cX9_lot 72 = .ok (.iload_n 1, 1) := by decide +kernel
theorem dX9_lot_73 : decode cX9_lot 73 = .ok (.iastore, 1) := by decide +kernel
theorem dX9_lot_74 : decode cX9_lot 74 = .ok (.aload_n 0, 1) := by decide +kernel
theorem dX9_lot_75 : decode cX9_lot 75 = .ok (.dup, 1) := by decide +kernel
theorem dX9_lot_76 : decode cX9_lot 76 = .ok (.getfield 90, 3) := by decide +kernel
theorem dX9_lot_79 : decode cX9_lot 79 = .ok (.iconst 1, 1) := by decide +kernel
theorem dX9_lot_80 : decode cX9_lot 80 = .ok (.iadd, 1) := by decide +kernel
theorem dX9_lot_81 : decode cX9_lot 81 = .ok (.putfield 90, 3) := by decide +kernel
theorem dX9_lot_84 : decode cX9_lot 84 = .ok (.aload_n 0, 1) := by decide +kernel
theorem dX9_lot_85 : decode cX9_lot 85 = .ok (.getfield 90, 3) := by decide +kernel
theorem dX9_lot_88 : decode cX9_lot 88 = .ok (.iconst 1, 1) := by decide +kernel
theorem dX9_lot_89 : decode cX9_lot 89 = .ok (.isub, 1) := by decide +kernel
theorem dX9_lot_90 : decode cX9_lot 90 = .ok (.ireturn, 1) := by decide +kernel
theorem dX9_cone_0 : decode cX9_cone 0 = .ok (.iload_n 1, 1) := by decide +kernel
theorem dX9_cone_1 : decode cX9_cone 1 = .ok (.iconst 0, 1) := by decide +kernel
theorem dX9_cone_2 : decode cX9_cone 2 = .ok (.aload_n 0, 1) := by decide +kernel
theorem dX9_cone_3 : decode cX9_cone 3 = .ok (.getfield 90, 3) := by decide +kernel
theorem dX9_cone_6 : decode cX9_cone 6 = .ok (.iconst 1, 1) := by decide +kernel
theorem dX9_cone_7 : decode cX9_cone 7 = .ok (.isub, 1) := by decide +kernel
theorem dX9_cone_8 : decode cX9_cone 8 = .ok (.invokestatic 63, 3) := by decide +kernel
theorem dX9_cone_11 : decode cX9_cone 11 = .ok (.istore 4, 2) := by decide +kernel
theorem dX9_cone_13 : decode cX9_cone 13 = .ok (.iload_n 2, 1) := by decide +kernel
theorem dX9_cone_14 : decode cX9_cone 14 = .ok (.bipush 10, 2) := by decide +kernel
theorem dX9_cone_16 : decode cX9_cone 16 = .ok (.sipush 500, 3) := by decide +kernel
theorem dX9_cone_19 : decode cX9_cone 19 = .ok (.invokestatic 63, 3) := by decide +kernel
theorem dX9_cone_22 : decode cX9_cone 22 = .ok (.ifCond .eq 16, 3) := by decide +kernel
theorem dX9_cone_25 : decode cX9_cone 25 = .ok (.iload_n 3, 1) := by decide +kernel
theorem dX9_cone_26 : decode cX9_cone 26 = .ok (.iconst 0, 1) := by decide +kernel
theorem dX9_cone_27 : decode cX9_cone 27 = .ok (.iconst 5, 1) := by decide +kernel
theorem dX9_cone_28 : decode cX9_cone 28 = .ok (.invokestatic 63, 3) := by decide +kernel
theorem dX9_cone_31 : decode cX9_cone 31 = .ok (.ifCond .eq 7, 3) := by decide +kernel
theorem dX9_cone_34 : decode cX9_cone 34 = .ok (.iconst 1, 1) := by decide +kernel
theorem dX9_cone_35 : decode cX9_cone 35 = .ok (.goto 4, 3) := by decide +kernel
theorem dX9_cone_38 : decode cX9_cone 38 = .ok (.iconst 0, 1) := by decide +kernel
theorem dX9_cone_39 : decode cX9_cone 39 = .ok (.istore 5, 2) := by decide +kernel
theorem dX9_cone_41 : decode cX9_cone 41 = .ok (.aload_n 0, 1) := by decide +kernel
theorem dX9_cone_42 : decode cX9_cone 42 = .ok (.iload 4, 2) := by decide +kernel
theorem dX9_cone_44 : decode cX9_cone 44 = .ok (.ifCond .ne 7, 3) := by decide +kernel
theorem dX9_cone_47 : decode cX9_cone 47 = .ok (.iconst 1, 1) := by decide +kernel
theorem dX9_cone_48 : decode cX9_cone 48 = .ok (.goto 36, 3) := by decide +kernel
theorem dX9_cone_51 : decode cX9_cone 51 = .ok (.iload 5, 2) := by decide +kernel
theorem dX9_cone_53 : decode cX9_cone 53 = .ok (.ifCond .ne 7, 3) := by decide +kernel
theorem dX9_cone_56 : decode cX9_cone 56 = .ok (.iconst 2, 1) := by decide +kernel
theorem dX9_cone_57 : decode cX9_cone 57 = .ok (.goto 27, 3) := by decide +kernel
theorem dX9_cone_60 : decode cX9_cone 60 = .ok (.aload_n 0, 1) := by decide +kernel
theorem dX9_cone_61 : decode cX9_cone 61 = .ok (.getfield 60, 3) := by decide +kernel
theorem dX9_cone_64 : decode cX9_cone 64 = .ok (.bipush 12, 2) := by decide +kernel
theorem dX9_cone_66 : decode cX9_cone 66 = .ok (.if_icmp .eq 13, 3) := by decide +kernel
theorem dX9_cone_69 : decode cX9_cone 69 = .ok (.aload_n 0, 1) := by decide +kernel
theorem dX9_cone_70 : decode cX9_cone 70 = .ok (.getfield 13, 3) := by decide +kernel
theorem dX9_cone_73 : decode cX9_cone 73 = .ok (.iload_n 1, 1) := by decide +kernel
theorem dX9_cone_74 : decode cX9_cone 74 = .ok (.iaload, 1) := by decide +kernel
theorem dX9_cone_75 : decode cX9_cone 75 = .ok (.iload_n 2, 1) := by decide +kernel
theorem dX9_cone_76 : decode cX9_cone 76 = .ok (.if_icmp .ge 7, 3) := by decide +kernel
theorem dX9_cone_79 : decode cX9_cone 79 = .ok (.iconst 3, 1) := by decide +kernel
theorem dX9_cone_80 : decode cX9_cone 80 = .ok (.goto 4, 3) := by decide +kernel
theorem dX9_cone_83 : decode cX9_cone 83 = .ok (.iconst 0, 1) := by decide +kernel
theorem dX9_cone_84 : decode cX9_cone 84 = .ok (.invokevirtual 74, 3) := by decide +kernel
theorem dX9_cone_87 : decode cX9_cone 87 = .ok (.ifCond .ne 5, 3) := by decide +kernel
theorem dX9_cone_90 : decode cX9_cone 90 = .ok (.iconst 0, 1) := by decide +kernel
theorem dX9_cone_91 : decode cX9_cone 91 = .ok (.ireturn, 1) := by decide +kernel
theorem dX9_cone_92 : decode cX9_cone 92 = .ok (.iload_n 2, 1) := by decide +kernel
theorem dX9_cone_93 : decode cX9_cone 93 = .ok (.istore 6, 2) := by decide +kernel
theorem dX9_cone_95 : decode cX9_cone 95 = .ok (.iconst 0, 1) := by decide +kernel
theorem dX9_cone_96 : decode cX9_cone 96 = .ok (.istore 7, 2) := by decide +kernel
theorem dX9_cone_98 : decode cX9_cone 98 = .ok (.iload 7, 2) := by decide +kernel
theorem dX9_cone_100 : decode cX9_cone 100 = .ok (.bipush 6, 2) := by decide +kernel
theorem dX9_cone_102 : decode cX9_cone 102 = .ok (.if_icmp .ge 83, 3) := by decide +kernel
theorem dX9_cone_105 : decode cX9_cone 105 = .ok (.bipush 6, 2) := by decide +kernel
theorem dX9_cone_107 : decode cX9_cone 107 = .ok (.aload_n 0, 1) := by decide +kernel
theorem dX9_cone_108 : decode cX9_cone 108 = .ok (.getfield 60, 3) := by decide +kernel
theorem dX9_cone_111 : decode cX9_cone 111 = .ok (.imul, 1) := by decide +kernel
theorem dX9_cone_112 : decode cX9_cone 112 = .ok (.iload 7, 2) := by decide +kernel
theorem dX9_cone_114 : decode cX9_cone 114 = .ok (.iadd, 1) := by decide +kernel
theorem dX9_cone_115 : decode cX9_cone 115 = .ok (.istore 8, 2) := by decide +kernel
theorem dX9_cone_117 : decode cX9_cone 117 = .ok (.aload_n 0, 1) := by decide +kernel
theorem dX9_cone_118 : decode cX9_cone 118 = .ok (.getfield 19, 3) := by decide +kernel
theorem dX9_cone_121 : decode cX9_cone 121 = .ok (.iload 8, 2) := by decide +kernel
theorem dX9_cone_123 : decode cX9_cone 123 = .ok (.sipush 1200, 3) := by decide +kernel
theorem dX9_cone_126 : decode cX9_cone 126 = .ok (.sipush 150, 3) := by decide +kernel
theorem dX9_cone_129 : decode cX9_cone 129 = .ok (.iload 7, 2) := by decide +kernel
theorem dX9_cone_131 : decode cX9_cone 131 = .ok (.imul, 1) := by decide +kernel
theorem dX9_cone_132 : decode cX9_cone 132 = .ok (.isub, 1) := by decide +kernel
theorem dX9_cone_133 : decode cX9_cone 133 = .ok (.iastore, 1) := by decide +kernel
theorem dX9_cone_134 : decode cX9_cone 134 = .ok (.aload_n 0, 1) := by decide +kernel
theorem dX9_cone_135 : decode cX9_cone 135 = .ok (.getfield 22, 3) := by decide +kernel
theorem dX9_cone_138 : decode cX9_cone 138 = .ok (.iload 8, 2) := by decide +kernel
theorem dX9_cone_140 : decode cX9_cone 140 = .ok (.bipush 60, 2) := by decide +kernel
theorem dX9_cone_142 : decode cX9_cone 142 = .ok (.iastore, 1) := by decide +kernel
theorem dX9_cone_143 : decode cX9_cone 143 = .ok (.aload_n 0, 1) := by decide +kernel
theorem dX9_cone_144 : decode cX9_cone 144 = .ok (.getfield 25, 3) := by decide +kernel
theorem dX9_cone_147 : decode cX9_cone 147 = .ok (.iload 8, 2) := by decide +kernel
theorem dX9_cone_149 : decode cX9_cone 149 = .ok (.iload_n 2, 1) := by decide +kernel
theorem dX9_cone_150 : decode cX9_cone 150 = .ok (.bipush 10, 2) := by decide +kernel
theorem dX9_cone_152 : decode cX9_cone 152 = .ok (.iload_n 3, 1) := by decide +kernel
theorem dX9_cone_153 : decode cX9_cone 153 = .ok (.iload 7, 2) := by decide +kernel
theorem dX9_cone_155 : decode cX9_cone 155 = .ok (.imul, 1) := by decide +kernel
theorem dX9_cone_156 : decode cX9_cone 156 = .ok (.iadd, 1) := by decide +kernel
theorem dX9_cone_157 : decode cX9_cone 157 = .ok (.imul, 1) := by decide +kernel
theorem dX9_cone_158 : decode cX9_cone 158 = .ok (.bipush 60, 2) := by decide +kernel
theorem dX9_cone_160 : decode cX9_cone 160 = .ok (.bipush 15, 2) := by decide +kernel
theorem dX9_cone_162 : decode cX9_cone 162 = .ok (.iload_n 3, 1) := by decide +kernel
theorem dX9_cone_163 : decode cX9_cone 163 = .ok (.imul, 1) := by decide +kernel
theorem dX9_cone_164 : decode cX9_cone 164 = .ok (.iadd, 1) := by decide +kernel
theorem dX9_cone_165 : decode cX9_cone 165 = .ok (.idiv, 1) := by decide +kernel
theorem dX9_cone_166 : decode cX9_cone 166 = .ok (.iastore, 1) := by decide +kernel
theorem dX9_cone_167 : decode cX9_cone 167 = .ok (.iload 6, 2) := by decide +kernel
theorem dX9_cone_169 : decode cX9_cone 169 = .ok (.aload_n 0, 1) := by decide +kernel
theorem dX9_cone_170 : decode cX9_cone 170 = .ok (.getfield 25, 3) := by decide +kernel
theorem dX9_cone_173 : decode cX9_cone 173 = .ok (.iload 8, 2) := by decide +kernel
theorem dX9_cone_175 : decode cX9_cone 175 = .ok (.iaload, 1) := by decide +kernel
theorem dX9_cone_176 : decode cX9_cone 176 = .ok (.isub, 1) := by decide +kernel
theorem dX9_cone_177 : decode cX9_cone 177 = .ok (.istore 6, 2) := by decide +kernel
theorem dX9_cone_179 : decode cX9_cone 179 = .ok (.iinc 7 1, 3) := by decide +kernel
theorem dX9_cone_182 : decode cX9_cone 182 = .ok (.goto (-84), 3) := by decide +kernel
theorem dX9_cone_185 : decode cX9_cone 185 = .ok (.aload_n 0, 1) := by decide +kernel
theorem dX9_cone_186 : decode cX9_cone 186 = .ok (.getfield 25, 3) := by decide +kernel
theorem dX9_cone_189 : decode cX9_cone 189 = .ok (.bipush 6, 2) := by decide +kernel
theorem dX9_cone_191 : decode cX9_cone 191 = .ok (.aload_n 0, 1) := by decide +kernel
theorem dX9_cone_192 : decode cX9_cone 192 = .ok (.getfield 60, 3) := by decide +kernel
theorem dX9_cone_195 : decode cX9_cone 195 = .ok (.imul, 1) := by decide +kernel
theorem dX9_cone_196 : decode cX9_cone 196 = .ok (.dup2, 1) := by decide +kernel
theorem dX9_cone_197 : decode cX9_cone 197 = .ok (.iaload, 1) := by decide +kernel
theorem dX9_cone_198 : decode cX9_cone 198 = .ok (.iload 6, 2) := by decide +kernel
theorem dX9_cone_200 : decode cX9_cone 200 = .ok (.iadd, 1) := by decide +kernel
theorem dX9_cone_201 : decode cX9_cone 201 = .ok (.iastore, 1) := by decide +kernel
theorem dX9_cone_202 : decode cX9_cone 202 = .ok (.aload_n 0, 1) := by decide +kernel
theorem dX9_cone_203 : decode cX9_cone 203 = .ok (.getfield 13, 3) := by decide +kernel
theorem dX9_cone_206 : decode cX9_cone 206 = .ok (.iload_n 1, 1) := by decide +kernel
theorem dX9_cone_207 : decode cX9_cone 207 = .ok (.dup2, 1) := by decide +kernel
theorem dX9_cone_208 : decode cX9_cone 208 = .ok (.iaload, 1) := by decide +kernel
theorem dX9_cone_209 : decode cX9_cone 209 = .ok (.iload_n 2, 1) := by decide +kernel
theorem dX9_cone_210 : decode cX9_cone 210 = .ok (.isub, 1) := by decide +kernel
theorem dX9_cone_211 : decode cX9_cone 211 = .ok (.iastore, 1) := by decide +kernel
theorem dX9_cone_212 : decode cX9_cone 212 = .ok (.aload_n 0, 1) := by decide +kernel
theorem dX9_cone_213 : decode cX9_cone 213 = .ok (.getfield 16, 3) := by decide +kernel
theorem dX9_cone_216 : decode cX9_cone 216 = .ok (.aload_n 0, 1) := by decide +kernel
theorem dX9_cone_217 : decode cX9_cone 217 = .ok (.getfield 60, 3) := by decide +kernel
theorem dX9_cone_220 : decode cX9_cone 220 = .ok (.aload_n 0, 1) := by decide +kernel
theorem dX9_cone_221 : decode cX9_cone 221 = .ok (.getfield 7, 3) := by decide +kernel
theorem dX9_cone_224 : decode cX9_cone 224 = .ok (.iload_n 1, 1) := by decide +kernel
theorem dX9_cone_225 : decode cX9_cone 225 = .ok (.iaload, 1) := by decide +kernel
theorem dX9_cone_226 : decode cX9_cone 226 = .ok (.iastore, 1) := by decide +kernel
theorem dX9_cone_227 : decode cX9_cone 227 = .ok (.aload_n 0, 1) := by decide +kernel
theorem dX9_cone_228 : decode cX9_cone 228 = .ok (.dup, 1) := by decide +kernel
theorem dX9_cone_229 : decode cX9_cone 229 = .ok (.getfield 60, 3) := by decide +kernel
theorem dX9_cone_232 : decode cX9_cone 232 = .ok (.iconst 1, 1) := by decide +kernel
theorem dX9_cone_233 : decode cX9_cone 233 = .ok (.iadd, 1) := by decide +kernel
theorem dX9_cone_234 : decode cX9_cone 234 = .ok (.putfield 60, 3) := by decide +kernel
theorem dX9_cone_237 : decode cX9_cone 237 = .ok (.aload_n 0, 1) := by decide +kernel
theorem dX9_cone_238 : decode cX9_cone 238 = .ok (.getfield 60, 3) := by decide +kernel
theorem dX9_cone_241 : decode cX9_cone 241 = .ok (.iconst 1, 1) := by decide +kernel
theorem dX9_cone_242 : decode cX9_cone 242 = .ok (.isub, 1) := by decide +kernel
theorem dX9_cone_243 : decode cX9_cone 243 = .ok (.ireturn, 1) := by decide +kernel
theorem dX9_hand_0 : decode cX9_hand 0 = .ok (.aload_n 0, 1) := by decide +kernel
theorem dX9_hand_1 : decode cX9_hand 1 = .ok (.aload_n 0, 1) := by decide +kernel
theorem dX9_hand_2 : decode cX9_hand 2 = .ok (.getfield 100, 3) := by decide +kernel
theorem dX9_hand_5 : decode cX9_hand 5 = .ok (.bipush 6, 2) := by decide +kernel
theorem dX9_hand_7 : decode cX9_hand 7 = .ok (.if_icmp .ne 7, 3) := by decide +kernel
theorem dX9_hand_10 : decode cX9_hand 10 = .ok (.iconst 1, 1) := by decide +kernel
theorem dX9_hand_11 : decode cX9_hand 11 = .ok (.goto 4, 3) := by decide +kernel
theorem dX9_hand_14 : decode cX9_hand 14 = .ok (.iconst 0, 1) := by decide +kernel
theorem dX9_hand_15 : decode cX9_hand 15 = .ok (.invokevirtual 74, 3) := by decide +kernel
theorem dX9_hand_18 : decode cX9_hand 18 = .ok (.ifCond .ne 5, 3) := by decide +kernel
theorem dX9_hand_21 : decode cX9_hand 21 = .ok (.iconst 0, 1) := by decide +kernel
theorem dX9_hand_22 : decode cX9_hand 22 = .ok (.ireturn, 1) := by decide +kernel
theorem dX9_hand_23 : decode cX9_hand 23 = .ok (.aload_n 0, 1) := by decide +kernel
theorem dX9_hand_24 : decode cX9_hand 24 = .ok (.dup, 1) := by decide +kernel
theorem dX9_hand_25 : decode cX9_hand 25 = .ok (.getfield 100, 3) := by decide +kernel
theorem dX9_hand_28 : decode cX9_hand 28 = .ok (.iconst 1, 1) := by decide +kernel
theorem dX9_hand_29 : decode cX9_hand 29 = .ok (.iadd, 1) := by decide +kernel
theorem dX9_hand_30 : decode cX9_hand 30 = .ok (.putfield 100, 3) := by decide +kernel
theorem dX9_hand_33 : decode cX9_hand 33 = .ok (.aload_n 0, 1) := by decide +kernel
theorem dX9_hand_34 : decode cX9_hand 34 = .ok (.getfield 100, 3) := by decide +kernel
theorem dX9_hand_37 : decode cX9_hand 37 = .ok (.iconst 1, 1) := by decide +kernel
theorem dX9_hand_38 : decode cX9_hand 38 = .ok (.isub, 1) := by decide +kernel
theorem dX9_hand_39 : decode cX9_hand 39 = .ok (.ireturn, 1) := by decide +kernel
theorem dX9_shrunk_0 : decode cX9_shrunk 0 = .ok (.iload_n 0, 1) := by decide +kernel
theorem dX9_shrunk_1 : decode cX9_shrunk 1 = .ok (.bipush 100, 2) := by decide +kernel
theorem dX9_shrunk_3 : decode cX9_shrunk 3 = .ok (.iload_n 1, 1) := by decide +kernel
theorem dX9_shrunk_4 : decode cX9_shrunk 4 = .ok (.isub, 1) := by decide +kernel
theorem dX9_shrunk_5 : decode cX9_shrunk 5 = .ok (.imul, 1) := by decide +kernel
theorem dX9_shrunk_6 : decode cX9_shrunk 6 = .ok (.bipush 100, 2) := by decide +kernel
theorem dX9_shrunk_8 : decode cX9_shrunk 8 = .ok (.idiv, 1) := by decide +kernel
theorem dX9_shrunk_9 : decode cX9_shrunk 9 = .ok (.ireturn, 1) := by decide +kernel
theorem dX9_cycle_0 : decode cX9_cycle 0 = .ok (.aload_n 0, 1) := by decide +kernel
theorem dX9_cycle_1 : decode cX9_cycle 1 = .ok (.iload_n 1, 1) := by decide +kernel
theorem dX9_cycle_2 : decode cX9_cycle 2 = .ok (.invokevirtual 67, 3) := by decide +kernel
theorem dX9_cycle_5 : decode cX9_cycle 5 = .ok (.ifCond .eq 21, 3) := by decide +kernel
theorem dX9_cycle_8 : decode cX9_cycle 8 = .ok (.iload_n 2, 1) := by decide +kernel
theorem dX9_cycle_9 : decode cX9_cycle 9 = .ok (.iconst 0, 1) := by decide +kernel
theorem dX9_cycle_10 : decode cX9_cycle 10 = .ok (.aload_n 0, 1) := by decide +kernel
theorem dX9_cycle_11 : decode cX9_cycle 11 = .ok (.getfield 100, 3) := by decide +kernel
theorem dX9_cycle_14 : decode cX9_cycle 14 = .ok (.iconst 1, 1) := by decide +kernel
theorem dX9_cycle_15 : decode cX9_cycle 15 = .ok (.isub, 1) := by decide +kernel
theorem dX9_cycle_16 : decode cX9_cycle 16 = .ok (.invokestatic 63, 3) := by decide +kernel
theorem dX9_cycle_19 : decode cX9_cycle 19 = .ok (.ifCond .eq 7, 3) := by decide +kernel
theorem dX9_cycle_22 : decode cX9_cycle 22 = .ok (.iconst 1, 1) := by decide +kernel
theorem dX9_cycle_23 : decode cX9_cycle 23 = .ok (.goto 4, 3) := by decide +kernel
theorem dX9_cycle_26 : decode cX9_cycle 26 = .ok (.iconst 0, 1) := by decide +kernel
theorem dX9_cycle_27 : decode cX9_cycle 27 = .ok (.istore_n 3, 1) := by decide +kernel
theorem dX9_cycle_28 : decode cX9_cycle 28 = .ok (.iload_n 3, 1) := by decide +kernel
theorem dX9_cycle_29 : decode cX9_cycle 29 = .ok (.ifCond .eq 48, 3) := by decide +kernel
theorem dX9_cycle_32 : decode cX9_cycle 32 = .ok (.aload_n 0, 1) := by decide +kernel
theorem dX9_cycle_33 : decode cX9_cycle 33 = .ok (.getfield 44, 3) := by decide +kernel
theorem dX9_cycle_36 : decode cX9_cycle 36 = .ok (.iload_n 2, 1) := by decide +kernel
theorem dX9_cycle_37 : decode cX9_cycle 37 = .ok (.iaload, 1) := by decide +kernel
theorem dX9_cycle_38 : decode cX9_cycle 38 = .ok (.aload_n 0, 1) := by decide +kernel
theorem dX9_cycle_39 : decode cX9_cycle 39 = .ok (.getfield 16, 3) := by decide +kernel
theorem dX9_cycle_42 : decode cX9_cycle 42 = .ok (.iload_n 1, 1) := by decide +kernel
theorem dX9_cycle_43 : decode cX9_cycle 43 = .ok (.iaload, 1) := by decide +kernel
theorem dX9_cycle_44 : decode cX9_cycle 44 = .ok (.invokestatic 103, 3) := by decide +kernel
theorem dX9_cycle_47 : decode cX9_cycle 47 = .ok (.iadd, 1) := by decide +kernel
theorem dX9_cycle_48 : decode cX9_cycle 48 = .ok (.bipush 30, 2) := by decide +kernel
theorem dX9_cycle_50 : decode cX9_cycle 50 = .ok (.if_icmp .gt 27, 3) := by decide +kernel
theorem dX9_cycle_53 : decode cX9_cycle 53 = .ok (.aload_n 0, 1) := by decide +kernel
theorem dX9_cycle_54 : decode cX9_cycle 54 = .ok (.getfield 31, 3) := by decide +kernel
theorem dX9_cycle_57 : decode cX9_cycle 57 = .ok (.iload_n 1, 1) := by decide +kernel
theorem dX9_cycle_58 : decode cX9_cycle 58 = .ok (.baload, 1) := by decide +kernel
theorem dX9_cycle_59 : decode cX9_cycle 59 = .ok (.ifCond .ne 18, 3) := by decide +kernel
theorem dX9_cycle_62 : decode cX9_cycle 62 = .ok (.aload_n 0, 1) := by decide +kernel
theorem dX9_cycle_63 : decode cX9_cycle 63 = .ok (.getfield 28, 3) := by decide +kernel
theorem dX9_cycle_66 : decode cX9_cycle 66 = .ok (.iload_n 1, 1) := by decide +kernel
theorem dX9_cycle_67 : decode cX9_cycle 67 = .ok (.iaload, 1) := by decide +kernel
theorem dX9_cycle_68 : decode cX9_cycle 68 = .ok (.bipush 12, 2) := by decide +kernel
theorem dX9_cycle_70 : decode cX9_cycle 70 = .ok (.if_icmp .ge 7, 3) := by decide +kernel
theorem dX9_cycle_73 : decode cX9_cycle 73 = .ok (.iconst 1, 1) := by decide +kernel
theorem dX9_cycle_74 : decode cX9_cycle 74 = .ok (.goto 4, 3) := by decide +kernel
theorem dX9_cycle_77 : decode cX9_cycle 77 = .ok (.iconst 0, 1) := by decide +kernel
theorem dX9_cycle_78 : decode cX9_cycle 78 = .ok (.istore 4, 2) := by decide +kernel
theorem dX9_cycle_80 : decode cX9_cycle 80 = .ok (.aload_n 0, 1) := by decide +kernel
theorem dX9_cycle_81 : decode cX9_cycle 81 = .ok (.iload_n 3, 1) := by decide +kernel
theorem dX9_cycle_82 : decode cX9_cycle 82 = .ok (.ifCond .ne 7, 3) := by decide +kernel
theorem dX9_cycle_85 : decode cX9_cycle 85 = .ok (.iconst 1, 1) := by decide +kernel
theorem dX9_cycle_86 : decode cX9_cycle 86 = .ok (.goto 13, 3) := by decide +kernel
theorem dX9_cycle_89 : decode cX9_cycle 89 = .ok (.iload 4, 2) := by decide +kernel
theorem dX9_cycle_91 : decode cX9_cycle 91 = .ok (.ifCond .eq 7, 3) := by decide +kernel
theorem dX9_cycle_94 : decode cX9_cycle 94 = .ok (.iconst 0, 1) := by decide +kernel
theorem dX9_cycle_95 : decode cX9_cycle 95 = .ok (.goto 4, 3) := by decide +kernel
theorem dX9_cycle_98 : decode cX9_cycle 98 = .ok (.iconst 2, 1) := by decide +kernel
theorem dX9_cycle_99 : decode cX9_cycle 99 = .ok (.invokevirtual 74, 3) := by decide +kernel
theorem dX9_cycle_102 : decode cX9_cycle 102 = .ok (.ifCond .ne 5, 3) := by decide +kernel
theorem dX9_cycle_105 : decode cX9_cycle 105 = .ok (.iconst 0, 1) := by decide +kernel
theorem dX9_cycle_106 : decode cX9_cycle 106 = .ok (.ireturn, 1) := by decide +kernel
theorem dX9_cycle_107 : decode cX9_cycle 107 = .ok (.aload_n 0, 1) := by decide +kernel
theorem dX9_cycle_108 : decode cX9_cycle 108 = .ok (.getfield 16, 3) := by decide +kernel
theorem dX9_cycle_111 : decode cX9_cycle 111 = .ok (.iload_n 1, 1) := by decide +kernel
theorem dX9_cycle_112 : decode cX9_cycle 112 = .ok (.iaload, 1) := by decide +kernel
theorem dX9_cycle_113 : decode cX9_cycle 113 = .ok (.istore 5, 2) := by decide +kernel
theorem dX9_cycle_115 : decode cX9_cycle 115 = .ok (.iconst 0, 1) := by decide +kernel
theorem dX9_cycle_116 : decode cX9_cycle 116 = .ok (.istore 6, 2) := by decide +kernel
theorem dX9_cycle_118 : decode cX9_cycle 118 = .ok (.iload 6, 2) := by decide +kernel
theorem dX9_cycle_120 : decode cX9_cycle 120 = .ok (.bipush 6, 2) := by decide +kernel
theorem dX9_cycle_122 : decode cX9_cycle 122 = .ok (.if_icmp .ge 62, 3) := by decide +kernel
theorem dX9_cycle_125 : decode cX9_cycle 125 = .ok (.bipush 6, 2) := by decide +kernel
theorem dX9_cycle_127 : decode cX9_cycle 127 = .ok (.iload_n 1, 1) := by decide +kernel
theorem dX9_cycle_128 : decode cX9_cycle 128 = .ok (.imul, 1) := by decide +kernel
theorem dX9_cycle_129 : decode cX9_cycle 129 = .ok (.iload 6, 2) := by decide +kernel
theorem dX9_cycle_131 : decode cX9_cycle 131 = .ok (.iadd, 1) := by decide +kernel
theorem dX9_cycle_132 : decode cX9_cycle 132 = .ok (.istore 7, 2) := by decide +kernel
theorem dX9_cycle_134 : decode cX9_cycle 134 = .ok (.aload_n 0, 1) := by decide +kernel
theorem dX9_cycle_135 : decode cX9_cycle 135 = .ok (.getfield 19, 3) := by decide +kernel
theorem dX9_cycle_138 : decode cX9_cycle 138 = .ok (.iload 7, 2) := by decide +kernel
theorem dX9_cycle_140 : decode cX9_cycle 140 = .ok (.aload_n 0, 1) := by decide +kernel
theorem dX9_cycle_141 : decode cX9_cycle 141 = .ok (.getfield 19, 3) := by decide +kernel
theorem dX9_cycle_144 : decode cX9_cycle 144 = .ok (.iload 7, 2) := by decide +kernel
theorem dX9_cycle_146 : decode cX9_cycle 146 = .ok (.iaload, 1) := by decide +kernel
theorem dX9_cycle_147 : decode cX9_cycle 147 = .ok (.iload 5, 2) := by decide +kernel
theorem dX9_cycle_149 : decode cX9_cycle 149 = .ok (.invokestatic 107, 3) := by decide +kernel
theorem dX9_cycle_152 : decode cX9_cycle 152 = .ok (.invokestatic 110, 3) := by decide +kernel
theorem dX9_cycle_155 : decode cX9_cycle 155 = .ok (.iastore, 1) := by decide +kernel
theorem dX9_cycle_156 : decode cX9_cycle 156 = .ok (.aload_n 0, 1) := by decide +kernel
theorem dX9_cycle_157 : decode cX9_cycle 157 = .ok (.getfield 22, 3) := by decide +kernel
theorem dX9_cycle_160 : decode cX9_cycle 160 = .ok (.iload 7, 2) := by decide +kernel
theorem dX9_cycle_162 : decode cX9_cycle 162 = .ok (.aload_n 0, 1) := by decide +kernel
theorem dX9_cycle_163 : decode cX9_cycle 163 = .ok (.getfield 22, 3) := by decide +kernel
theorem dX9_cycle_166 : decode cX9_cycle 166 = .ok (.iload 7, 2) := by decide +kernel
theorem dX9_cycle_168 : decode cX9_cycle 168 = .ok (.iaload, 1) := by decide +kernel
theorem dX9_cycle_169 : decode cX9_cycle 169 = .ok (.iload 5, 2) := by decide +kernel
theorem dX9_cycle_171 : decode cX9_cycle 171 = .ok (.invokestatic 114, 3) := by decide +kernel
theorem dX9_cycle_174 : decode cX9_cycle 174 = .ok (.invokestatic 110, 3) := by decide +kernel
theorem dX9_cycle_177 : decode cX9_cycle 177 = .ok (.iastore, 1) := by decide +kernel
theorem dX9_cycle_178 : decode cX9_cycle 178 = .ok (.iinc 6 1, 3) := by decide +kernel
theorem dX9_cycle_181 : decode cX9_cycle 181 = .ok (.goto (-63), 3) := by decide +kernel
theorem dX9_cycle_184 : decode cX9_cycle 184 = .ok (.aload_n 0, 1) := by decide +kernel
theorem dX9_cycle_185 : decode cX9_cycle 185 = .ok (.getfield 28, 3) := by decide +kernel
theorem dX9_cycle_188 : decode cX9_cycle 188 = .ok (.iload_n 1, 1) := by decide +kernel
theorem dX9_cycle_189 : decode cX9_cycle 189 = .ok (.dup2, 1) := by decide +kernel
theorem dX9_cycle_190 : decode cX9_cycle 190 = .ok (.iaload, 1) := by decide +kernel
theorem dX9_cycle_191 : decode cX9_cycle 191 = .ok (.iconst 1, 1) := by decide +kernel
theorem dX9_cycle_192 : decode cX9_cycle 192 = .ok (.iadd, 1) := by decide +kernel
theorem dX9_cycle_193 : decode cX9_cycle 193 = .ok (.iastore, 1) := by decide +kernel
theorem dX9_cycle_194 : decode cX9_cycle 194 = .ok (.aload_n 0, 1) := by decide +kernel
theorem dX9_cycle_195 : decode cX9_cycle 195 = .ok (.getfield 44, 3) := by decide +kernel
theorem dX9_cycle_198 : decode cX9_cycle 198 = .ok (.iload_n 2, 1) := by decide +kernel
theorem dX9_cycle_199 : decode cX9_cycle 199 = .ok (.dup2, 1) := by decide +kernel
theorem dX9_cycle_200 : decode cX9_cycle 200 = .ok (.iaload, 1) := by decide +kernel
theorem dX9_cycle_201 : decode cX9_cycle 201 = .ok (.iload 5, 2) := by decide +kernel
theorem dX9_cycle_203 : decode cX9_cycle 203 = .ok (.invokestatic 103, 3) := by decide +kernel
theorem dX9_cycle_206 : decode cX9_cycle 206 = .ok (.iadd, 1) := by decide +kernel
theorem dX9_cycle_207 : decode cX9_cycle 207 = .ok (.iastore, 1) := by decide +kernel
theorem dX9_cycle_208 : decode cX9_cycle 208 = .ok (.aload_n 0, 1) := by decide +kernel
theorem dX9_cycle_209 : decode cX9_cycle 209 = .ok (.getfield 47, 3) := by decide +kernel
theorem dX9_cycle_212 : decode cX9_cycle 212 = .ok (.iload_n 2, 1) := by decide +kernel
theorem dX9_cycle_213 : decode cX9_cycle 213 = .ok (.dup2, 1) := by decide +kernel
theorem dX9_cycle_214 : decode cX9_cycle 214 = .ok (.iaload, 1) := by decide +kernel
theorem dX9_cycle_215 : decode cX9_cycle 215 = .ok (.iload 5, 2) := by decide +kernel
theorem dX9_cycle_217 : decode cX9_cycle 217 = .ok (.invokestatic 103, 3) := by decide +kernel
theorem dX9_cycle_220 : decode cX9_cycle 220 = .ok (.iadd, 1) := by decide +kernel
theorem dX9_cycle_221 : decode cX9_cycle 221 = .ok (.iastore, 1) := by decide +kernel
theorem dX9_cycle_222 : decode cX9_cycle 222 = .ok (.aload_n 0, 1) := by decide +kernel
theorem dX9_cycle_223 : decode cX9_cycle 223 = .ok (.getfield 19, 3) := by decide +kernel
theorem dX9_cycle_226 : decode cX9_cycle 226 = .ok (.bipush 6, 2) := by decide +kernel
theorem dX9_cycle_228 : decode cX9_cycle 228 = .ok (.iload_n 1, 1) := by decide +kernel
theorem dX9_cycle_229 : decode cX9_cycle 229 = .ok (.imul, 1) := by decide +kernel
theorem dX9_cycle_230 : decode cX9_cycle 230 = .ok (.iaload, 1) := by decide +kernel
theorem dX9_cycle_231 : decode cX9_cycle 231 = .ok (.ireturn, 1) := by decide +kernel
theorem dX9_thick_0 : decode cX9_thick 0 = .ok (.aload_n 0, 1) := by decide +kernel
theorem dX9_thick_1 : decode cX9_thick 1 = .ok (.getfield 25, 3) := by decide +kernel
theorem dX9_thick_4 : decode cX9_thick 4 = .ok (.iload_n 1, 1) := by decide +kernel
theorem dX9_thick_5 : decode cX9_thick 5 = .ok (.iaload, 1) := by decide +kernel
theorem dX9_thick_6 : decode cX9_thick 6 = .ok (.ldc 117, 2) := by decide +kernel
theorem dX9_thick_8 : decode cX9_thick 8 = .ok (.imul, 1) := by decide +kernel
theorem dX9_thick_9 : decode cX9_thick 9 = .ok (.aload_n 0, 1) := by decide +kernel
theorem dX9_thick_10 : decode cX9_thick 10 = .ok (.getfield 19, 3) := by decide +kernel
theorem dX9_thick_13 : decode cX9_thick 13 = .ok (.iload_n 1, 1) := by decide +kernel
theorem dX9_thick_14 : decode cX9_thick 14 = .ok (.iaload, 1) := by decide +kernel
theorem dX9_thick_15 : decode cX9_thick 15 = .ok (.aload_n 0, 1) := by decide +kernel
theorem dX9_thick_16 : decode cX9_thick 16 = .ok (.getfield 22, 3) := by decide +kernel
theorem dX9_thick_19 : decode cX9_thick 19 = .ok (.iload_n 1, 1) := by decide +kernel
theorem dX9_thick_20 : decode cX9_thick 20 = .ok (.iaload, 1) := by decide +kernel
theorem dX9_thick_21 : decode cX9_thick 21 = .ok (.imul, 1) := by decide +kernel
theorem dX9_thick_22 : decode cX9_thick 22 = .ok (.idiv, 1) := by decide +kernel
theorem dX9_thick_23 : decode cX9_thick 23 = .ok (.ireturn, 1) := by decide +kernel
theorem dX9_block_0 : decode cX9_block 0 = .ok (.aload_n 0, 1) := by decide +kernel
theorem dX9_block_1 : decode cX9_block 1 = .ok (.iload_n 1, 1) := by decide +kernel
theorem dX9_block_2 : decode cX9_block 2 = .ok (.sipush 300, 3) := by decide +kernel
theorem dX9_block_5 : decode cX9_block 5 = .ok (.sipush 700, 3) := by decide +kernel
theorem dX9_block_8 : decode cX9_block 8 = .ok (.invokestatic 63, 3) := by decide +kernel
theorem dX9_block_11 : decode cX9_block 11 = .ok (.ifCond .eq 13, 3) := by decide +kernel
theorem dX9_block_14 : decode cX9_block 14 = .ok (.iload_n 2, 1) := by decide +kernel
theorem dX9_block_15 : decode cX9_block 15 = .ok (.iconst 1, 1) := by decide +kernel
theorem dX9_block_16 : decode cX9_block 16 = .ok (.bipush 6, 2) := by decide +kernel
theorem dX9_block_18 : decode cX9_block 18 = .ok (.invokestatic 63, 3) := by decide +kernel
theorem dX9_block_21 : decode cX9_block 21 = .ok (.ifCond .ne 7, 3) := by decide +kernel
theorem dX9_block_24 : decode cX9_block 24 = .ok (.iconst 1, 1) := by decide +kernel
theorem dX9_block_25 : decode cX9_block 25 = .ok (.goto 17, 3) := by decide +kernel
theorem dX9_block_28 : decode cX9_block 28 = .ok (.aload_n 0, 1) := by decide +kernel
theorem dX9_block_29 : decode cX9_block 29 = .ok (.getfield 118, 3) := by decide +kernel
theorem dX9_block_32 : decode cX9_block 32 = .ok (.bipush 8, 2) := by decide +kernel
theorem dX9_block_34 : decode cX9_block 34 = .ok (.if_icmp .ne 7, 3) := by decide +kernel
theorem dX9_block_37 : decode cX9_block 37 = .ok (.iconst 2, 1) := by decide +kernel
theorem dX9_block_38 : decode cX9_block 38 = .ok (.goto 4, 3) := by decide +kernel
theorem dX9_block_41 : decode cX9_block 41 = .ok (.iconst 0, 1) := by decide +kernel
theorem dX9_block_42 : decode cX9_block 42 = .ok (.invokevirtual 74, 3) := by decide +kernel
theorem dX9_block_45 : decode cX9_block 45 = .ok (.ifCond .ne 5, 3) := by decide +kernel
theorem dX9_block_48 : decode cX9_block 48 = .ok (.iconst 0, 1) := by decide +kernel
theorem dX9_block_49 : decode cX9_block 49 = .ok (.ireturn, 1) := by decide +kernel
theorem dX9_block_50 : decode cX9_block 50 = .ok (.aload_n 0, 1) := by decide +kernel
theorem dX9_block_51 : decode cX9_block 51 = .ok (.getfield 38, 3) := by decide +kernel
theorem dX9_block_54 : decode cX9_block 54 = .ok (.aload_n 0, 1) := by decide +kernel
theorem dX9_block_55 : decode cX9_block 55 = .ok (.getfield 118, 3) := by decide +kernel
theorem dX9_block_58 : decode cX9_block 58 = .ok (.iload_n 1, 1) := by decide +kernel
theorem dX9_block_59 : decode cX9_block 59 = .ok (.iastore, 1) := by decide +kernel
theorem dX9_block_60 : decode cX9_block 60 = .ok (.aload_n 0, 1) := by decide +kernel
theorem dX9_block_61 : decode cX9_block 61 = .ok (.getfield 41, 3) := by decide +kernel
theorem dX9_block_64 : decode cX9_block 64 = .ok (.aload_n 0, 1) := by decide +kernel
theorem dX9_block_65 : decode cX9_block 65 = .ok (.getfield 118, 3) := by decide +kernel
theorem dX9_block_68 : decode cX9_block 68 = .ok (.iload_n 2, 1) := by decide +kernel
theorem dX9_block_69 : decode cX9_block 69 = .ok (.iastore, 1) := by decide +kernel
theorem dX9_block_70 : decode cX9_block 70 = .ok (.aload_n 0, 1) := by decide +kernel
theorem dX9_block_71 : decode cX9_block 71 = .ok (.dup, 1) := by decide +kernel
theorem dX9_block_72 : decode cX9_block 72 = .ok (.getfield 118, 3) := by decide +kernel
theorem dX9_block_75 : decode cX9_block 75 = .ok (.iconst 1, 1) := by decide +kernel
theorem dX9_block_76 : decode cX9_block 76 = .ok (.iadd, 1) := by decide +kernel
theorem dX9_block_77 : decode cX9_block 77 = .ok (.putfield 118, 3) := by decide +kernel
theorem dX9_block_80 : decode cX9_block 80 = .ok (.aload_n 0, 1) := by decide +kernel
theorem dX9_block_81 : decode cX9_block 81 = .ok (.getfield 118, 3) := by decide +kernel
theorem dX9_block_84 : decode cX9_block 84 = .ok (.iconst 1, 1) := by decide +kernel
theorem dX9_block_85 : decode cX9_block 85 = .ok (.isub, 1) := by decide +kernel
theorem dX9_block_86 : decode cX9_block 86 = .ok (.ireturn, 1) := by decide +kernel
theorem dX9_blockAt_0 : decode cX9_blockAt 0 = .ok (.aload_n 0, 1) := by decide +kernel
theorem dX9_blockAt_1 : decode cX9_blockAt 1 = .ok (.getfield 38, 3) := by decide +kernel
theorem dX9_blockAt_4 : decode cX9_blockAt 4 = .ok (.iload_n 1, 1) := by decide +kernel
theorem dX9_blockAt_5 : decode cX9_blockAt 5 = .ok (.iaload, 1) := by decide +kernel
theorem dX9_blockAt_6 : decode cX9_blockAt 6 = .ok (.istore_n 3, 1) := by decide +kernel
theorem dX9_blockAt_7 : decode cX9_blockAt 7 = .ok (.aload_n 0, 1) := by decide +kernel
theorem dX9_blockAt_8 : decode cX9_blockAt 8 = .ok (.getfield 41, 3) := by decide +kernel
theorem dX9_blockAt_11 : decode cX9_blockAt 11 = .ok (.iload_n 1, 1) := by decide +kernel
theorem dX9_blockAt_12 : decode cX9_blockAt 12 = .ok (.iaload, 1) := by decide +kernel
theorem dX9_blockAt_13 : decode cX9_blockAt 13 = .ok (.istore 4, 2) := by decide +kernel
theorem dX9_blockAt_15 : decode cX9_blockAt 15 = .ok (.iload 4, 2) := by decide +kernel
theorem dX9_blockAt_17 : decode cX9_blockAt 17 = .ok (.iload_n 2, 1) := by decide +kernel
theorem dX9_blockAt_18 : decode cX9_blockAt 18 = .ok (.if_icmp .gt 34, 3) := by decide +kernel
theorem dX9_blockAt_21 : decode cX9_blockAt 21 = .ok (.iload_n 3, 1) := by decide +kernel
theorem dX9_blockAt_22 : decode cX9_blockAt 22 = .ok (.aload_n 0, 1) := by decide +kernel
theorem dX9_blockAt_23 : decode cX9_blockAt 23 = .ok (.getfield 38, 3) := by decide +kernel
theorem dX9_blockAt_26 : decode cX9_blockAt 26 = .ok (.iload_n 1, 1) := by decide +kernel
theorem dX9_blockAt_27 : decode cX9_blockAt 27 = .ok (.iaload, 1) := by decide +kernel
theorem dX9_blockAt_28 : decode cX9_blockAt 28 = .ok (.bipush 10, 2) := by decide +kernel
theorem dX9_blockAt_30 : decode cX9_blockAt 30 = .ok (.idiv, 1) := by decide +kernel
theorem dX9_blockAt_31 : decode cX9_blockAt 31 = .ok (.isub, 1) := by decide +kernel
theorem dX9_blockAt_32 : decode cX9_blockAt 32 = .ok (.istore_n 3, 1) := by decide +kernel
theorem dX9_blockAt_33 : decode cX9_blockAt 33 = .ok (.iload_n 3, 1) := by decide +kernel
theorem dX9_blockAt_34 : decode cX9_blockAt 34 = .ok (.bipush 50, 2) := by decide +kernel
theorem dX9_blockAt_36 : decode cX9_blockAt 36 = .ok (.if_icmp .ge 8, 3) := by decide +kernel
theorem dX9_blockAt_39 : decode cX9_blockAt 39 = .ok (.bipush 50, 2) := by decide +kernel
theorem dX9_blockAt_41 : decode cX9_blockAt 41 = .ok (.goto 4, 3) := by decide +kernel
theorem dX9_blockAt_44 : decode cX9_blockAt 44 = .ok (.iload_n 3, 1) := by decide +kernel
theorem dX9_blockAt_45 : decode cX9_blockAt 45 = .ok (.istore_n 3, 1) := by decide +kernel
theorem dX9_blockAt_46 : decode cX9_blockAt 46 = .ok (.iinc 4 1, 3) := by decide +kernel
theorem dX9_blockAt_49 : decode cX9_blockAt 49 = .ok (.goto (-34), 3) := by decide +kernel
theorem dX9_blockAt_52 : decode cX9_blockAt 52 = .ok (.iload_n 3, 1) := by decide +kernel
theorem dX9_blockAt_53 : decode cX9_blockAt 53 = .ok (.ireturn, 1) := by decide +kernel
theorem dX9_hinders_0 : decode cX9_hinders 0 = .ok (.iconst 0, 1) := by decide +kernel
theorem dX9_hinders_1 : decode cX9_hinders 1 = .ok (.istore_n 3, 1) := by decide +kernel
theorem dX9_hinders_2 : decode cX9_hinders 2 = .ok (.iconst 0, 1) := by decide +kernel
theorem dX9_hinders_3 : decode cX9_hinders 3 = .ok (.istore 4, 2) := by decide +kernel
theorem dX9_hinders_5 : decode cX9_hinders 5 = .ok (.iconst 0, 1) := by decide +kernel
theorem dX9_hinders_6 : decode cX9_hinders 6 = .ok (.istore 5, 2) := by decide +kernel
theorem dX9_hinders_8 : decode cX9_hinders 8 = .ok (.aload_n 0, 1) := by decide +kernel
theorem dX9_hinders_9 : decode cX9_hinders 9 = .ok (.getfield 16, 3) := by decide +kernel
theorem dX9_hinders_12 : decode cX9_hinders 12 = .ok (.iload_n 1, 1) := by decide +kernel
theorem dX9_hinders_13 : decode cX9_hinders 13 = .ok (.iaload, 1) := by decide +kernel
theorem dX9_hinders_14 : decode cX9_hinders 14 = .ok (.istore 6, 2) := by decide +kernel
theorem dX9_hinders_16 : decode cX9_hinders 16 = .ok (.iconst 0, 1) := by decide +kernel
theorem dX9_hinders_17 : decode cX9_hinders 17 = .ok (.istore 7, 2) := by decide +kernel
theorem dX9_hinders_19 : decode cX9_hinders 19 = .ok (.iload 7, 2) := by decide +kernel
theorem dX9_hinders_21 : decode cX9_hinders 21 = .ok (.bipush 6, 2) := by decide +kernel
theorem dX9_hinders_23 : decode cX9_hinders 23 = .ok (.if_icmp .ge 129, 3) := by decide +kernel
theorem dX9_hinders_26 : decode cX9_hinders 26 = .ok (.bipush 6, 2) := by decide +kernel
theorem dX9_hinders_28 : decode cX9_hinders 28 = .ok (.iload_n 1, 1) := by decide +kernel
theorem dX9_hinders_29 : decode cX9_hinders 29 = .ok (.imul, 1) := by decide +kernel
theorem dX9_hinders_30 : decode cX9_hinders 30 = .ok (.iload 7, 2) := by decide +kernel
theorem dX9_hinders_32 : decode cX9_hinders 32 = .ok (.iadd, 1) := by decide +kernel
theorem dX9_hinders_33 : decode cX9_hinders 33 = .ok (.istore 8, 2) := by decide +kernel
theorem dX9_hinders_35 : decode cX9_hinders 35 = .ok (.aload_n 0, 1) := by decide +kernel
theorem dX9_hinders_36 : decode cX9_hinders 36 = .ok (.getfield 19, 3) := by decide +kernel
theorem dX9_hinders_39 : decode cX9_hinders 39 = .ok (.iload 8, 2) := by decide +kernel
theorem dX9_hinders_41 : decode cX9_hinders 41 = .ok (.iaload, 1) := by decide +kernel
theorem dX9_hinders_42 : decode cX9_hinders 42 = .ok (.istore 9, 2) := by decide +kernel
theorem dX9_hinders_44 : decode cX9_hinders 44 = .ok (.aload_n 0, 1) := by decide +kernel
theorem dX9_hinders_45 : decode cX9_hinders 45 = .ok (.iload_n 2, 1) := by decide +kernel
theorem dX9_hinders_46 : decode cX9_hinders 46 = .ok (.iload 7, 2) := by decide +kernel
theorem dX9_hinders_48 : decode cX9_hinders 48 = .ok (.invokevirtual 121, 3) := by decide +kernel
theorem dX9_hinders_51 : decode cX9_hinders 51 = .ok (.istore 10, 2) := by decide +kernel
theorem dX9_hinders_53 : decode cX9_hinders 53 = .ok (.iload_n 3, 1) := by decide +kernel
theorem dX9_hinders_54 : decode cX9_hinders 54 = .ok (.ifCond .ne 14, 3) := by decide +kernel
theorem dX9_hinders_57 : decode cX9_hinders 57 = .ok (.aload_n 0, 1) := by decide +kernel
theorem dX9_hinders_58 : decode cX9_hinders 58 = .ok (.iload 8, 2) := by decide +kernel
theorem dX9_hinders_60 : decode cX9_hinders 60 = .ok (.invokevirtual 124, 3) := by decide +kernel
theorem dX9_hinders_63 : decode cX9_hinders 63 = .ok (.bipush 40, 2) := by decide +kernel
theorem dX9_hinders_65 : decode cX9_hinders 65 = .ok (.if_icmp .ge 7, 3) := by decide +kernel
theorem dX9_hinders_68 : decode cX9_hinders 68 = .ok (.iconst 1, 1) := by decide +kernel
theorem dX9_hinders_69 : decode cX9_hinders 69 = .ok (.goto 4, 3) := by decide +kernel
theorem dX9_hinders_72 : decode cX9_hinders 72 = .ok (.iconst 0, 1) := by decide +kernel
theorem dX9_hinders_73 : decode cX9_hinders 73 = .ok (.istore_n 3, 1) := by decide +kernel
theorem dX9_hinders_74 : decode cX9_hinders 74 = .ok (.iload 4, 2) := by decide +kernel
theorem dX9_hinders_76 : decode cX9_hinders 76 = .ok (.ifCond .ne 29, 3) := by decide +kernel
theorem dX9_hinders_79 : decode cX9_hinders 79 = .ok (.iload 10, 2) := by decide +kernel
theorem dX9_hinders_81 : decode cX9_hinders 81 = .ok (.iload 9, 2) := by decide +kernel
theorem dX9_hinders_83 : decode cX9_hinders 83 = .ok (.if_icmp .le 26, 3) := by decide +kernel
theorem dX9_hinders_86 : decode cX9_hinders 86 = .ok (.bipush 100, 2) := by decide +kernel
theorem dX9_hinders_88 : decode cX9_hinders 88 = .ok (.iload 10, 2) := by decide +kernel
theorem dX9_hinders_90 : decode cX9_hinders 90 = .ok (.iload 9, 2) := by decide +kernel
theorem dX9_hinders_92 : decode cX9_hinders 92 = .ok (.isub, 1) := by decide +kernel
theorem dX9_hinders_93 : decode cX9_hinders 93 = .ok (.imul, 1) := by decide +kernel
theorem dX9_hinders_94 : decode cX9_hinders 94 = .ok (.iload 9, 2) := by decide +kernel
theorem dX9_hinders_96 : decode cX9_hinders 96 = .ok (.idiv, 1) := by decide +kernel
theorem dX9_hinders_97 : decode cX9_hinders 97 = .ok (.iload 6, 2) := by decide +kernel
theorem dX9_hinders_99 : decode cX9_hinders 99 = .ok (.invokestatic 127, 3) := by decide +kernel
theorem dX9_hinders_102 : decode cX9_hinders 102 = .ok (.if_icmp .le 7, 3) := by decide +kernel
theorem dX9_hinders_105 : decode cX9_hinders 105 = .ok (.iconst 1, 1) := by decide +kernel
theorem dX9_hinders_106 : decode cX9_hinders 106 = .ok (.goto 4, 3) := by decide +kernel
theorem dX9_hinders_109 : decode cX9_hinders 109 = .ok (.iconst 0, 1) := by decide +kernel
theorem dX9_hinders_110 : decode cX9_hinders 110 = .ok (.istore 4, 2) := by decide +kernel
theorem dX9_hinders_112 : decode cX9_hinders 112 = .ok (.iload 5, 2) := by decide +kernel
theorem dX9_hinders_114 : decode cX9_hinders 114 = .ok (.ifCond .ne 25, 3) := by decide +kernel
theorem dX9_hinders_117 : decode cX9_hinders 117 = .ok (.iload 10, 2) := by decide +kernel
theorem dX9_hinders_119 : decode cX9_hinders 119 = .ok (.iload 9, 2) := by decide +kernel
theorem dX9_hinders_121 : decode cX9_hinders 121 = .ok (.if_icmp .ge 22, 3) := by decide +kernel
theorem dX9_hinders_124 : decode cX9_hinders 124 = .ok (.iload 9, 2) := by decide +kernel
theorem dX9_hinders_126 : decode cX9_hinders 126 = .ok (.iload 6, 2) := by decide +kernel
theorem dX9_hinders_128 : decode cX9_hinders 128 = .ok (.invokestatic 107, 3) := by decide +kernel
theorem dX9_hinders_131 : decode cX9_hinders 131 = .ok (.invokestatic 110, 3) := by decide +kernel
theorem dX9_hinders_134 : decode cX9_hinders 134 = .ok (.iload 10, 2) := by decide +kernel
theorem dX9_hinders_136 : decode cX9_hinders 136 = .ok (.if_icmp .le 7, 3) := by decide +kernel
theorem dX9_hinders_139 : decode cX9_hinders 139 = .ok (.iconst 1, 1) := by decide +kernel
theorem dX9_hinders_140 : decode cX9_hinders 140 = .ok (.goto 4, 3) := by decide +kernel
theorem dX9_hinders_143 : decode cX9_hinders 143 = .ok (.iconst 0, 1) := by decide +kernel
theorem dX9_hinders_144 : decode cX9_hinders 144 = .ok (.istore 5, 2) := by decide +kernel
theorem dX9_hinders_146 : decode cX9_hinders 146 = .ok (.iinc 7 1, 3) := by decide +kernel
theorem dX9_hinders_149 : decode cX9_hinders 149 = .ok (.goto (-130), 3) := by decide +kernel
theorem dX9_hinders_152 : decode cX9_hinders 152 = .ok (.iload_n 3, 1) := by decide +kernel
theorem dX9_hinders_153 : decode cX9_hinders 153 = .ok (.ifCond .eq 7, 3) := by decide +kernel
theorem dX9_hinders_156 : decode cX9_hinders 156 = .ok (.iconst 1, 1) := by decide +kernel
theorem dX9_hinders_157 : decode cX9_hinders 157 = .ok (.goto 22, 3) := by decide +kernel
theorem dX9_hinders_160 : decode cX9_hinders 160 = .ok (.iload 4, 2) := by decide +kernel
theorem dX9_hinders_162 : decode cX9_hinders 162 = .ok (.ifCond .eq 7, 3) := by decide +kernel
theorem dX9_hinders_165 : decode cX9_hinders 165 = .ok (.iconst 2, 1) := by decide +kernel
theorem dX9_hinders_166 : decode cX9_hinders 166 = .ok (.goto 13, 3) := by decide +kernel
theorem dX9_hinders_169 : decode cX9_hinders 169 = .ok (.iload 5, 2) := by decide +kernel
theorem dX9_hinders_171 : decode cX9_hinders 171 = .ok (.ifCond .eq 7, 3) := by decide +kernel
theorem dX9_hinders_174 : decode cX9_hinders 174 = .ok (.iconst 3, 1) := by decide +kernel
theorem dX9_hinders_175 : decode cX9_hinders 175 = .ok (.goto 4, 3) := by decide +kernel
theorem dX9_hinders_178 : decode cX9_hinders 178 = .ok (.iconst 0, 1) := by decide +kernel
theorem dX9_hinders_179 : decode cX9_hinders 179 = .ok (.ireturn, 1) := by decide +kernel
theorem dX9_draw_0 : decode cX9_draw 0 = .ok (.aload_n 0, 1) := by decide +kernel
theorem dX9_draw_1 : decode cX9_draw 1 = .ok (.iload_n 1, 1) := by decide +kernel
theorem dX9_draw_2 : decode cX9_draw 2 = .ok (.invokevirtual 67, 3) := by decide +kernel
theorem dX9_draw_5 : decode cX9_draw 5 = .ok (.ifCond .eq 21, 3) := by decide +kernel
theorem dX9_draw_8 : decode cX9_draw 8 = .ok (.iload_n 2, 1) := by decide +kernel
theorem dX9_draw_9 : decode cX9_draw 9 = .ok (.iconst 0, 1) := by decide +kernel
theorem dX9_draw_10 : decode cX9_draw 10 = .ok (.aload_n 0, 1) := by decide +kernel
theorem dX9_draw_11 : decode cX9_draw 11 = .ok (.getfield 118, 3) := by decide +kernel
theorem dX9_draw_14 : decode cX9_draw 14 = .ok (.iconst 1, 1) := by decide +kernel
theorem dX9_draw_15 : decode cX9_draw 15 = .ok (.isub, 1) := by decide +kernel
theorem dX9_draw_16 : decode cX9_draw 16 = .ok (.invokestatic 63, 3) := by decide +kernel
theorem dX9_draw_19 : decode cX9_draw 19 = .ok (.ifCond .eq 7, 3) := by decide +kernel
theorem dX9_draw_22 : decode cX9_draw 22 = .ok (.iconst 1, 1) := by decide +kernel
theorem dX9_draw_23 : decode cX9_draw 23 = .ok (.goto 4, 3) := by decide +kernel
theorem dX9_draw_26 : decode cX9_draw 26 = .ok (.iconst 0, 1) := by decide +kernel
theorem dX9_draw_27 : decode cX9_draw 27 = .ok (.istore_n 3, 1) := by decide +kernel
theorem dX9_draw_28 : decode cX9_draw 28 = .ok (.aload_n 0, 1) := by decide +kernel
theorem dX9_draw_29 : decode cX9_draw 29 = .ok (.iload_n 3, 1) := by decide +kernel
theorem dX9_draw_30 : decode cX9_draw 30 = .ok (.ifCond .eq 7, 3) := by decide +kernel
theorem dX9_draw_33 : decode cX9_draw 33 = .ok (.iconst 0, 1) := by decide +kernel
theorem dX9_draw_34 : decode cX9_draw 34 = .ok (.goto 4, 3) := by decide +kernel
theorem dX9_draw_37 : decode cX9_draw 37 = .ok (.iconst 1, 1) := by decide +kernel
theorem dX9_draw_38 : decode cX9_draw 38 = .ok (.invokevirtual 74, 3) := by decide +kernel
theorem dX9_draw_41 : decode cX9_draw 41 = .ok (.ifCond .ne 5, 3) := by decide +kernel
theorem dX9_draw_44 : decode cX9_draw 44 = .ok (.iconst 0, 1) := by decide +kernel
theorem dX9_draw_45 : decode cX9_draw 45 = .ok (.ireturn, 1) := by decide +kernel
theorem dX9_draw_46 : decode cX9_draw 46 = .ok (.aload_n 0, 1) := by decide +kernel
theorem dX9_draw_47 : decode cX9_draw 47 = .ok (.iload_n 1, 1) := by decide +kernel
theorem dX9_draw_48 : decode cX9_draw 48 = .ok (.iload_n 2, 1) := by decide +kernel
theorem dX9_draw_49 : decode cX9_draw 49 = .ok (.invokevirtual 130, 3) := by decide +kernel
theorem dX9_draw_52 : decode cX9_draw 52 = .ok (.istore 4, 2) := by decide +kernel
theorem dX9_draw_54 : decode cX9_draw 54 = .ok (.iload 4, 2) := by decide +kernel
theorem dX9_draw_56 : decode cX9_draw 56 = .ok (.ifCond .ne 45, 3) := by decide +kernel
theorem dX9_draw_59 : decode cX9_draw 59 = .ok (.iconst 0, 1) := by decide +kernel
theorem dX9_draw_60 : decode cX9_draw 60 = .ok (.istore 5, 2) := by decide +kernel
theorem dX9_draw_62 : decode cX9_draw 62 = .ok (.iload 5, 2) := by decide +kernel
theorem dX9_draw_64 : decode cX9_draw 64 = .ok (.bipush 6, 2) := by decide +kernel
theorem dX9_draw_66 : decode cX9_draw 66 = .ok (.if_icmp .ge 28, 3) := by decide +kernel
theorem dX9_draw_69 : decode cX9_draw 69 = .ok (.aload_n 0, 1) := by decide +kernel
theorem dX9_draw_70 : decode cX9_draw 70 = .ok (.getfield 19, 3) := by decide +kernel
theorem dX9_draw_73 : decode cX9_draw 73 = .ok (.bipush 6, 2) := by decide +kernel
theorem dX9_draw_75 : decode cX9_draw 75 = .ok (.iload_n 1, 1) := by decide +kernel
theorem dX9_draw_76 : decode cX9_draw 76 = .ok (.imul, 1) := by decide +kernel
theorem dX9_draw_77 : decode cX9_draw 77 = .ok (.iload 5, 2) := by decide +kernel
theorem dX9_draw_79 : decode cX9_draw 79 = .ok (.iadd, 1) := by decide +kernel
theorem dX9_draw_80 : decode cX9_draw 80 = .ok (.aload_n 0, 1) := by decide +kernel
theorem dX9_draw_81 : decode cX9_draw 81 = .ok (.iload_n 2, 1) := by decide +kernel
theorem dX9_draw_82 : decode cX9_draw 82 = .ok (.iload 5, 2) := by decide +kernel
theorem dX9_draw_84 : decode cX9_draw 84 = .ok (.invokevirtual 121, 3) := by decide +kernel
theorem dX9_draw_87 : decode cX9_draw 87 = .ok (.iastore, 1) := by decide +kernel
theorem dX9_draw_88 : decode cX9_draw 88 = .ok (.iinc 5 1, 3) := by decide +kernel
theorem dX9_draw_91 : decode cX9_draw 91 = .ok (.goto (-29), 3) := by decide +kernel
theorem dX9_draw_94 : decode cX9_draw 94 = .ok (.aload_n 0, 1) := by decide +kernel
theorem dX9_draw_95 : decode cX9_draw 95 = .ok (.getfield 31, 3) := by decide +kernel
theorem dX9_draw_98 : decode cX9_draw 98 = .ok (.iload_n 1, 1) := by decide +kernel
theorem dX9_draw_99 : decode cX9_draw 99 = .ok (.iconst 1, 1) := by decide +kernel
theorem dX9_draw_100 : decode cX9_draw 100 = .ok (.bastore, 1) := by decide +kernel
theorem dX9_draw_101 : decode cX9_draw 101 = .ok (.iload 4, 2) := by decide +kernel
theorem dX9_draw_103 : decode cX9_draw 103 = .ok (.ireturn, 1) := by decide +kernel
theorem dX9_trim_0 : decode cX9_trim 0 = .ok (.aload_n 0, 1) := by decide +kernel
theorem dX9_trim_1 : decode cX9_trim 1 = .ok (.iload_n 1, 1) := by decide +kernel
theorem dX9_trim_2 : decode cX9_trim 2 = .ok (.invokevirtual 67, 3) := by decide +kernel
theorem dX9_trim_5 : decode cX9_trim 5 = .ok (.istore_n 2, 1) := by decide +kernel
theorem dX9_trim_6 : decode cX9_trim 6 = .ok (.aload_n 0, 1) := by decide +kernel
theorem dX9_trim_7 : decode cX9_trim 7 = .ok (.iload_n 2, 1) := by decide +kernel
theorem dX9_trim_8 : decode cX9_trim 8 = .ok (.ifCond .ne 7, 3) := by decide +kernel
theorem dX9_trim_11 : decode cX9_trim 11 = .ok (.iconst 1, 1) := by decide +kernel
theorem dX9_trim_12 : decode cX9_trim 12 = .ok (.goto 17, 3) := by decide +kernel
theorem dX9_trim_15 : decode cX9_trim 15 = .ok (.aload_n 0, 1) := by decide +kernel
theorem dX9_trim_16 : decode cX9_trim 16 = .ok (.getfield 35, 3) := by decide +kernel
theorem dX9_trim_19 : decode cX9_trim 19 = .ok (.iload_n 1, 1) := by decide +kernel
theorem dX9_trim_20 : decode cX9_trim 20 = .ok (.baload, 1) := by decide +kernel
theorem dX9_trim_21 : decode cX9_trim 21 = .ok (.ifCond .eq 7, 3) := by decide +kernel
theorem dX9_trim_24 : decode cX9_trim 24 = .ok (.iconst 2, 1) := by decide +kernel
theorem dX9_trim_25 : decode cX9_trim 25 = .ok (.goto 4, 3) := by decide +kernel
theorem dX9_trim_28 : decode cX9_trim 28 = .ok (.iconst 0, 1) := by decide +kernel
theorem dX9_trim_29 : decode cX9_trim 29 = .ok (.invokevirtual 74, 3) := by decide +kernel
theorem dX9_trim_32 : decode cX9_trim 32 = .ok (.ifCond .ne 5, 3) := by decide +kernel
theorem dX9_trim_35 : decode cX9_trim 35 = .ok (.iconst 0, 1) := by decide +kernel
theorem dX9_trim_36 : decode cX9_trim 36 = .ok (.ireturn, 1) := by decide +kernel
theorem dX9_trim_37 : decode cX9_trim 37 = .ok (.aload_n 0, 1) := by decide +kernel
theorem dX9_trim_38 : decode cX9_trim 38 = .ok (.getfield 35, 3) := by decide +kernel
theorem dX9_trim_41 : decode cX9_trim 41 = .ok (.iload_n 1, 1) := by decide +kernel
theorem dX9_trim_42 : decode cX9_trim 42 = .ok (.aload_n 0, 1) := by decide +kernel
theorem dX9_trim_43 : decode cX9_trim 43 = .ok (.getfield 53, 3) := by decide +kernel
theorem dX9_trim_46 : decode cX9_trim 46 = .ok (.bipush 10, 2) := by decide +kernel
theorem dX9_trim_48 : decode cX9_trim 48 = .ok (.idiv, 1) := by decide +kernel
theorem dX9_trim_49 : decode cX9_trim 49 = .ok (.aload_n 0, 1) := by decide +kernel
theorem dX9_trim_50 : decode cX9_trim 50 = .ok (.invokevirtual 133, 3) := by decide +kernel
theorem dX9_trim_53 : decode cX9_trim 53 = .ok (.if_icmp .ge 7, 3) := by decide +kernel
theorem dX9_trim_56 : decode cX9_trim 56 = .ok (.iconst 1, 1) := by decide +kernel
theorem dX9_trim_57 : decode cX9_trim 57 = .ok (.goto 4, 3) := by decide +kernel
theorem dX9_trim_60 : decode cX9_trim 60 = .ok (.iconst 0, 1) := by decide +kernel
theorem dX9_trim_61 : decode cX9_trim 61 = .ok (.bastore, 1) := by decide +kernel
theorem dX9_trim_62 : decode cX9_trim 62 = .ok (.aload_n 0, 1) := by decide +kernel
theorem dX9_trim_63 : decode cX9_trim 63 = .ok (.invokevirtual 97, 3) := by decide +kernel
theorem dX9_trim_66 : decode cX9_trim 66 = .ok (.aload_n 0, 1) := by decide +kernel
theorem dX9_trim_67 : decode cX9_trim 67 = .ok (.getfield 35, 3) := by decide +kernel
theorem dX9_trim_70 : decode cX9_trim 70 = .ok (.iload_n 1, 1) := by decide +kernel
theorem dX9_trim_71 : decode cX9_trim 71 = .ok (.baload, 1) := by decide +kernel
theorem dX9_trim_72 : decode cX9_trim 72 = .ok (.ireturn, 1) := by decide +kernel
theorem dX9_pass_0 : decode cX9_pass 0 = .ok (.aload_n 0, 1) := by decide +kernel
theorem dX9_pass_1 : decode cX9_pass 1 = .ok (.iload_n 1, 1) := by decide +kernel
theorem dX9_pass_2 : decode cX9_pass 2 = .ok (.iconst 1, 1) := by decide +kernel
theorem dX9_pass_3 : decode cX9_pass 3 = .ok (.bipush 30, 2) := by decide +kernel
theorem dX9_pass_5 : decode cX9_pass 5 = .ok (.invokestatic 63, 3) := by decide +kernel
theorem dX9_pass_8 : decode cX9_pass 8 = .ok (.ifCond .eq 7, 3) := by decide +kernel
theorem dX9_pass_11 : decode cX9_pass 11 = .ok (.iconst 0, 1) := by decide +kernel
theorem dX9_pass_12 : decode cX9_pass 12 = .ok (.goto 4, 3) := by decide +kernel
theorem dX9_pass_15 : decode cX9_pass 15 = .ok (.iconst 1, 1) := by decide +kernel
theorem dX9_pass_16 : decode cX9_pass 16 = .ok (.invokevirtual 74, 3) := by decide +kernel
theorem dX9_pass_19 : decode cX9_pass 19 = .ok (.ifCond .ne 5, 3) := by decide +kernel
theorem dX9_pass_22 : decode cX9_pass 22 = .ok (.iconst 0, 1) := by decide +kernel
theorem dX9_pass_23 : decode cX9_pass 23 = .ok (.ireturn, 1) := by decide +kernel
theorem dX9_pass_24 : decode cX9_pass 24 = .ok (.aload_n 0, 1) := by decide +kernel
theorem dX9_pass_25 : decode cX9_pass 25 = .ok (.dup, 1) := by decide +kernel
theorem dX9_pass_26 : decode cX9_pass 26 = .ok (.getfield 53, 3) := by decide +kernel
theorem dX9_pass_29 : decode cX9_pass 29 = .ok (.iload_n 1, 1) := by decide +kernel
theorem dX9_pass_30 : decode cX9_pass 30 = .ok (.iadd, 1) := by decide +kernel
theorem dX9_pass_31 : decode cX9_pass 31 = .ok (.putfield 53, 3) := by decide +kernel
theorem dX9_pass_34 : decode cX9_pass 34 = .ok (.iconst 0, 1) := by decide +kernel
theorem dX9_pass_35 : decode cX9_pass 35 = .ok (.istore_n 2, 1) := by decide +kernel
theorem dX9_pass_36 : decode cX9_pass 36 = .ok (.iload_n 2, 1) := by decide +kernel
theorem dX9_pass_37 : decode cX9_pass 37 = .ok (.bipush 6, 2) := by decide +kernel
theorem dX9_pass_39 : decode cX9_pass 39 = .ok (.if_icmp .ge 16, 3) := by decide +kernel
theorem dX9_pass_42 : decode cX9_pass 42 = .ok (.aload_n 0, 1) := by decide +kernel
theorem dX9_pass_43 : decode cX9_pass 43 = .ok (.getfield 44, 3) := by decide +kernel
theorem dX9_pass_46 : decode cX9_pass 46 = .ok (.iload_n 2, 1) := by decide +kernel
theorem dX9_pass_47 : decode cX9_pass 47 = .ok (.iconst 0, 1) := by decide +kernel
theorem dX9_pass_48 : decode cX9_pass 48 = .ok (.iastore, 1) := by decide +kernel
theorem dX9_pass_49 : decode cX9_pass 49 = .ok (.iinc 2 1, 3) := by decide +kernel
theorem dX9_pass_52 : decode cX9_pass 52 = .ok (.goto (-16), 3) := by decide +kernel
theorem dX9_pass_55 : decode cX9_pass 55 = .ok (.aload_n 0, 1) := by decide +kernel
theorem dX9_pass_56 : decode cX9_pass 56 = .ok (.getfield 53, 3) := by decide +kernel
theorem dX9_pass_59 : decode cX9_pass 59 = .ok (.bipush 10, 2) := by decide +kernel
theorem dX9_pass_61 : decode cX9_pass 61 = .ok (.idiv, 1) := by decide +kernel
theorem dX9_pass_62 : decode cX9_pass 62 = .ok (.ireturn, 1) := by decide +kernel
theorem dX9_about_0 : decode cX9_about 0 = .ok (.aload_n 0, 1) := by decide +kernel
theorem dX9_about_1 : decode cX9_about 1 = .ok (.aload_n 0, 1) := by decide +kernel
theorem dX9_about_2 : decode cX9_about 2 = .ok (.iload_n 1, 1) := by decide +kernel
theorem dX9_about_3 : decode cX9_about 3 = .ok (.iload_n 2, 1) := by decide +kernel
theorem dX9_about_4 : decode cX9_about 4 = .ok (.invokevirtual 136, 3) := by decide +kernel
theorem dX9_about_7 : decode cX9_about 7 = .ok (.ifCond .ne 7, 3) := by decide +kernel
theorem dX9_about_10 : decode cX9_about 10 = .ok (.iconst 1, 1) := by decide +kernel
theorem dX9_about_11 : decode cX9_about 11 = .ok (.goto 17, 3) := by decide +kernel
theorem dX9_about_14 : decode cX9_about 14 = .ok (.iload_n 3, 1) := by decide +kernel
theorem dX9_about_15 : decode cX9_about 15 = .ok (.iconst 0, 1) := by decide +kernel
theorem dX9_about_16 : decode cX9_about 16 = .ok (.iconst 3, 1) := by decide +kernel
theorem dX9_about_17 : decode cX9_about 17 = .ok (.invokestatic 63, 3) := by decide +kernel
theorem dX9_about_20 : decode cX9_about 20 = .ok (.ifCond .eq 7, 3) := by decide +kernel
theorem dX9_about_23 : decode cX9_about 23 = .ok (.iconst 0, 1) := by decide +kernel
theorem dX9_about_24 : decode cX9_about 24 = .ok (.goto 4, 3) := by decide +kernel
theorem dX9_about_27 : decode cX9_about 27 = .ok (.iconst 2, 1) := by decide +kernel
theorem dX9_about_28 : decode cX9_about 28 = .ok (.invokevirtual 74, 3) := by decide +kernel
theorem dX9_about_31 : decode cX9_about 31 = .ok (.ifCond .ne 5, 3) := by decide +kernel
theorem dX9_about_34 : decode cX9_about 34 = .ok (.iconst 0, 1) := by decide +kernel
theorem dX9_about_35 : decode cX9_about 35 = .ok (.ireturn, 1) := by decide +kernel
theorem dX9_about_36 : decode cX9_about 36 = .ok (.bipush 6, 2) := by decide +kernel
theorem dX9_about_38 : decode cX9_about 38 = .ok (.iload_n 1, 1) := by decide +kernel
theorem dX9_about_39 : decode cX9_about 39 = .ok (.imul, 1) := by decide +kernel
theorem dX9_about_40 : decode cX9_about 40 = .ok (.iload_n 2, 1) := by decide +kernel
theorem dX9_about_41 : decode cX9_about 41 = .ok (.iadd, 1) := by decide +kernel
theorem dX9_about_42 : decode cX9_about 42 = .ok (.istore 4, 2) := by decide +kernel
theorem dX9_about_44 : decode cX9_about 44 = .ok (.iload_n 3, 1) := by decide +kernel
theorem dX9_about_45 : decode cX9_about 45 = .ok (.ifCond .ne 13, 3) := by decide +kernel
theorem dX9_about_48 : decode cX9_about 48 = .ok (.aload_n 0, 1) := by decide +kernel
theorem dX9_about_49 : decode cX9_about 49 = .ok (.getfield 19, 3) := by decide +kernel
theorem dX9_about_52 : decode cX9_about 52 = .ok (.iload 4, 2) := by decide +kernel
theorem dX9_about_54 : decode cX9_about 54 = .ok (.iaload, 1) := by decide +kernel
theorem dX9_about_55 : decode cX9_about 55 = .ok (.goto 39, 3) := by decide +kernel
theorem dX9_about_58 : decode cX9_about 58 = .ok (.iload_n 3, 1) := by decide +kernel
theorem dX9_about_59 : decode cX9_about 59 = .ok (.iconst 1, 1) := by decide +kernel
theorem dX9_about_60 : decode cX9_about 60 = .ok (.if_icmp .ne 13, 3) := by decide +kernel
theorem dX9_about_63 : decode cX9_about 63 = .ok (.aload_n 0, 1) := by decide +kernel
theorem dX9_about_64 : decode cX9_about 64 = .ok (.getfield 22, 3) := by decide +kernel
theorem dX9_about_67 : decode cX9_about 67 = .ok (.iload 4, 2) := by decide +kernel
theorem dX9_about_69 : decode cX9_about 69 = .ok (.iaload, 1) := by decide +kernel
theorem dX9_about_70 : decode cX9_about 70 = .ok (.goto 24, 3) := by decide +kernel
theorem dX9_about_73 : decode cX9_about 73 = .ok (.iload_n 3, 1) := by decide +kernel
theorem dX9_about_74 : decode cX9_about 74 = .ok (.iconst 2, 1) := by decide +kernel
theorem dX9_about_75 : decode cX9_about 75 = .ok (.if_icmp .ne 13, 3) := by decide +kernel
theorem dX9_about_78 : decode cX9_about 78 = .ok (.aload_n 0, 1) := by decide +kernel
theorem dX9_about_79 : decode cX9_about 79 = .ok (.getfield 25, 3) := by decide +kernel
theorem dX9_about_82 : decode cX9_about 82 = .ok (.iload 4, 2) := by decide +kernel
theorem dX9_about_84 : decode cX9_about 84 = .ok (.iaload, 1) := by decide +kernel
theorem dX9_about_85 : decode cX9_about 85 = .ok (.goto 9, 3) := by decide +kernel
theorem dX9_about_88 : decode cX9_about 88 = .ok (.aload_n 0, 1) := by decide +kernel
theorem dX9_about_89 : decode cX9_about 89 = .ok (.iload 4, 2) := by decide +kernel
theorem dX9_about_91 : decode cX9_about 91 = .ok (.invokevirtual 124, 3) := by decide +kernel
theorem dX9_about_94 : decode cX9_about 94 = .ok (.ireturn, 1) := by decide +kernel
theorem dX9_widthAnew_0 : decode cX9_widthAnew 0 = .ok (.aload_n 0, 1) := by decide +kernel
theorem dX9_widthAnew_1 : decode cX9_widthAnew 1 = .ok (.aload_n 0, 1) := by decide +kernel
theorem dX9_widthAnew_2 : decode cX9_widthAnew 2 = .ok (.iload_n 1, 1) := by decide +kernel
theorem dX9_widthAnew_3 : decode cX9_widthAnew 3 = .ok (.iload_n 2, 1) := by decide +kernel
theorem dX9_widthAnew_4 : decode cX9_widthAnew 4 = .ok (.invokevirtual 136, 3) := by decide +kernel
theorem dX9_widthAnew_7 : decode cX9_widthAnew 7 = .ok (.ifCond .eq 7, 3) := by decide +kernel
theorem dX9_widthAnew_10 : decode cX9_widthAnew 10 = .ok (.iconst 0, 1) := by decide +kernel
theorem dX9_widthAnew_11 : decode cX9_widthAnew 11 = .ok (.goto 4, 3) := by decide +kernel
theorem dX9_widthAnew_14 : decode cX9_widthAnew 14 = .ok (.iconst 1, 1) := by decide +kernel
theorem dX9_widthAnew_15 : decode cX9_widthAnew 15 = .ok (.invokevirtual 74, 3) := by decide +kernel
theorem dX9_widthAnew_18 : decode cX9_widthAnew 18 = .ok (.ifCond .eq 17, 3) := by decide +kernel
theorem dX9_widthAnew_21 : decode cX9_widthAnew 21 = .ok (.aload_n 0, 1) := by decide +kernel
theorem dX9_widthAnew_22 : decode cX9_widthAnew 22 = .ok (.getfield 19, 3) := by decide +kernel
theorem dX9_widthAnew_25 : decode cX9_widthAnew 25 = .ok (.bipush 6, 2) := by decide +kernel
theorem dX9_widthAnew_27 : decode cX9_widthAnew 27 = .ok (.iload_n 1, 1) := by decide +kernel
theorem dX9_widthAnew_28 : decode cX9_widthAnew 28 = .ok (.imul, 1) := by decide +kernel
theorem dX9_widthAnew_29 : decode cX9_widthAnew 29 = .ok (.iload_n 2, 1) := by decide +kernel
theorem dX9_widthAnew_30 : decode cX9_widthAnew 30 = .ok (.iadd, 1) := by decide +kernel
theorem dX9_widthAnew_31 : decode cX9_widthAnew 31 = .ok (.iaload, 1) := by decide +kernel
theorem dX9_widthAnew_32 : decode cX9_widthAnew 32 = .ok (.goto 4, 3) := by decide +kernel
theorem dX9_widthAnew_35 : decode cX9_widthAnew 35 = .ok (.iconst 0, 1) := by decide +kernel
theorem dX9_widthAnew_36 : decode cX9_widthAnew 36 = .ok (.ireturn, 1) := by decide +kernel
theorem dX9_brim_0 : decode cX9_brim 0 = .ok (.aload_n 0, 1) := by decide +kernel
theorem dX9_brim_1 : decode cX9_brim 1 = .ok (.aload_n 0, 1) := by decide +kernel
theorem dX9_brim_2 : decode cX9_brim 2 = .ok (.iload_n 1, 1) := by decide +kernel
theorem dX9_brim_3 : decode cX9_brim 3 = .ok (.invokevirtual 67, 3) := by decide +kernel
theorem dX9_brim_6 : decode cX9_brim 6 = .ok (.ifCond .ne 7, 3) := by decide +kernel
theorem dX9_brim_9 : decode cX9_brim 9 = .ok (.iconst 1, 1) := by decide +kernel
theorem dX9_brim_10 : decode cX9_brim 10 = .ok (.goto 20, 3) := by decide +kernel
theorem dX9_brim_13 : decode cX9_brim 13 = .ok (.iload_n 2, 1) := by decide +kernel
theorem dX9_brim_14 : decode cX9_brim 14 = .ok (.bipush 10, 2) := by decide +kernel
theorem dX9_brim_16 : decode cX9_brim 16 = .ok (.sipush 150, 3) := by decide +kernel
theorem dX9_brim_19 : decode cX9_brim 19 = .ok (.invokestatic 63, 3) := by decide +kernel
theorem dX9_brim_22 : decode cX9_brim 22 = .ok (.ifCond .eq 7, 3) := by decide +kernel
theorem dX9_brim_25 : decode cX9_brim 25 = .ok (.iconst 0, 1) := by decide +kernel
theorem dX9_brim_26 : decode cX9_brim 26 = .ok (.goto 4, 3) := by decide +kernel
theorem dX9_brim_29 : decode cX9_brim 29 = .ok (.iconst 2, 1) := by decide +kernel
theorem dX9_brim_30 : decode cX9_brim 30 = .ok (.invokevirtual 74, 3) := by decide +kernel
theorem dX9_brim_33 : decode cX9_brim 33 = .ok (.ifCond .ne 5, 3) := by decide +kernel
theorem dX9_brim_36 : decode cX9_brim 36 = .ok (.iconst 0, 1) := by decide +kernel
theorem dX9_brim_37 : decode cX9_brim 37 = .ok (.ireturn, 1) := by decide +kernel
theorem dX9_brim_38 : decode cX9_brim 38 = .ok (.iconst 2, 1) := by decide +kernel
theorem dX9_brim_39 : decode cX9_brim 39 = .ok (.iload_n 2, 1) := by decide +kernel
theorem dX9_brim_40 : decode cX9_brim 40 = .ok (.imul, 1) := by decide +kernel
theorem dX9_brim_41 : decode cX9_brim 41 = .ok (.i2f, 1) := by decide +kernel
theorem dX9_brim_42 : decode cX9_brim 42 = .ok (.fstore_n 3, 1) := by decide +kernel
theorem dX9_brim_43 : decode cX9_brim 43 = .ok (.aload_n 0, 1) := by decide +kernel
theorem dX9_brim_44 : decode cX9_brim 44 = .ok (.getfield 19, 3) := by decide +kernel
theorem dX9_brim_47 : decode cX9_brim 47 = .ok (.bipush 6, 2) := by decide +kernel
theorem dX9_brim_49 : decode cX9_brim 49 = .ok (.iload_n 1, 1) := by decide +kernel
theorem dX9_brim_50 : decode cX9_brim 50 = .ok (.imul, 1) := by decide +kernel
theorem dX9_brim_51 : decode cX9_brim 51 = .ok (.iaload, 1) := by decide +kernel
theorem dX9_brim_52 : decode cX9_brim 52 = .ok (.i2f, 1) := by decide +kernel
theorem dX9_brim_53 : decode cX9_brim 53 = .ok (.fstore 4, 2) := by decide +kernel
theorem dX9_brim_55 : decode cX9_brim 55 = .ok (.fload_n 3, 1) := by decide +kernel
theorem dX9_brim_56 : decode cX9_brim 56 = .ok (.ldc 140, 2) := by decide +kernel
theorem dX9_brim_58 : decode cX9_brim 58 = .ok (.fmul, 1) := by decide +kernel
theorem dX9_brim_59 : decode cX9_brim 59 = .ok (.fload 4, 2) := by decide +kernel
theorem dX9_brim_61 : decode cX9_brim 61 = .ok (.fdiv, 1) := by decide +kernel
theorem dX9_brim_62 : decode cX9_brim 62 = .ok (.invokestatic 141, 3) := by decide +kernel
theorem dX9_brim_65 : decode cX9_brim 65 = .ok (.ireturn, 1) := by decide +kernel
theorem dX9_gain_0 : decode cX9_gain 0 = .ok (.bipush 6, 2) := by decide +kernel
theorem dX9_gain_2 : decode cX9_gain 2 = .ok (.iload_n 1, 1) := by decide +kernel
theorem dX9_gain_3 : decode cX9_gain 3 = .ok (.iconst 3, 1) := by decide +kernel
theorem dX9_gain_4 : decode cX9_gain 4 = .ok (.idiv, 1) := by decide +kernel
theorem dX9_gain_5 : decode cX9_gain 5 = .ok (.isub, 1) := by decide +kernel
theorem dX9_gain_6 : decode cX9_gain 6 = .ok (.istore_n 2, 1) := by decide +kernel
theorem dX9_gain_7 : decode cX9_gain 7 = .ok (.iload_n 0, 1) := by decide +kernel
theorem dX9_gain_8 : decode cX9_gain 8 = .ok (.ifCond .ne 8, 3) := by decide +kernel
theorem dX9_gain_11 : decode cX9_gain 11 = .ok (.bipush 6, 2) := by decide +kernel
theorem dX9_gain_13 : decode cX9_gain 13 = .ok (.goto 31, 3) := by decide +kernel
theorem dX9_gain_16 : decode cX9_gain 16 = .ok (.iload_n 0, 1) := by decide +kernel
theorem dX9_gain_17 : decode cX9_gain 17 = .ok (.iconst 1, 1) := by decide +kernel
theorem dX9_gain_18 : decode cX9_gain 18 = .ok (.if_icmp .ne 7, 3) := by decide +kernel
theorem dX9_gain_21 : decode cX9_gain 21 = .ok (.iconst 4, 1) := by decide +kernel
theorem dX9_gain_22 : decode cX9_gain 22 = .ok (.goto 22, 3) := by decide +kernel
theorem dX9_gain_25 : decode cX9_gain 25 = .ok (.iload_n 0, 1) := by decide +kernel
theorem dX9_gain_26 : decode cX9_gain 26 = .ok (.iconst 2, 1) := by decide +kernel
theorem dX9_gain_27 : decode cX9_gain 27 = .ok (.if_icmp .ne 15, 3) := by decide +kernel
theorem dX9_gain_30 : decode cX9_gain 30 = .ok (.iload_n 2, 1) := by decide +kernel
theorem dX9_gain_31 : decode cX9_gain 31 = .ok (.ifCond .ge 7, 3) := by decide +kernel
theorem dX9_gain_34 : decode cX9_gain 34 = .ok (.iconst 0, 1) := by decide +kernel
theorem dX9_gain_35 : decode cX9_gain 35 = .ok (.goto 9, 3) := by decide +kernel
theorem dX9_gain_38 : decode cX9_gain 38 = .ok (.iload_n 2, 1) := by decide +kernel
theorem dX9_gain_39 : decode cX9_gain 39 = .ok (.goto 5, 3) := by decide +kernel
theorem dX9_gain_42 : decode cX9_gain 42 = .ok (.bipush 9, 2) := by decide +kernel
theorem dX9_gain_44 : decode cX9_gain 44 = .ok (.ireturn, 1) := by decide +kernel
theorem dX9_countOf_0 : decode cX9_countOf 0 = .ok (.aload_n 0, 1) := by decide +kernel
theorem dX9_countOf_1 : decode cX9_countOf 1 = .ok (.invokevirtual 147, 3) := by decide +kernel
theorem dX9_countOf_4 : decode cX9_countOf 4 = .ok (.istore_n 2, 1) := by decide +kernel
theorem dX9_countOf_5 : decode cX9_countOf 5 = .ok (.aload_n 0, 1) := by decide +kernel
theorem dX9_countOf_6 : decode cX9_countOf 6 = .ok (.invokevirtual 97, 3) := by decide +kernel
theorem dX9_countOf_9 : decode cX9_countOf 9 = .ok (.bipush 6, 2) := by decide +kernel
theorem dX9_countOf_11 : decode cX9_countOf 11 = .ok (.istore_n 3, 1) := by decide +kernel
theorem dX9_countOf_12 : decode cX9_countOf 12 = .ok (.bipush 6, 2) := by decide +kernel
theorem dX9_countOf_14 : decode cX9_countOf 14 = .ok (.istore 4, 2) := by decide +kernel
theorem dX9_countOf_16 : decode cX9_countOf 16 = .ok (.iconst 2, 1) := by decide +kernel
theorem dX9_countOf_17 : decode cX9_countOf 17 = .ok (.istore 5, 2) := by decide +kernel
theorem dX9_countOf_19 : decode cX9_countOf 19 = .ok (.iload 5, 2) := by decide +kernel
theorem dX9_countOf_21 : decode cX9_countOf 21 = .ok (.iload_n 1, 1) := by decide +kernel
theorem dX9_countOf_22 : decode cX9_countOf 22 = .ok (.if_icmp .gt 24, 3) := by decide +kernel
theorem dX9_countOf_25 : decode cX9_countOf 25 = .ok (.iload_n 3, 1) := by decide +kernel
theorem dX9_countOf_26 : decode cX9_countOf 26 = .ok (.iload_n 2, 1) := by decide +kernel
theorem dX9_countOf_27 : decode cX9_countOf 27 = .ok (.iload 5, 2) := by decide +kernel
theorem dX9_countOf_29 : decode cX9_countOf 29 = .ok (.invokestatic 150, 3) := by decide +kernel
theorem dX9_countOf_32 : decode cX9_countOf 32 = .ok (.iadd, 1) := by decide +kernel
theorem dX9_countOf_33 : decode cX9_countOf 33 = .ok (.istore_n 3, 1) := by decide +kernel
theorem dX9_countOf_34 : decode cX9_countOf 34 = .ok (.iload 4, 2) := by decide +kernel
theorem dX9_countOf_36 : decode cX9_countOf 36 = .ok (.iload_n 3, 1) := by decide +kernel
theorem dX9_countOf_37 : decode cX9_countOf 37 = .ok (.iadd, 1) := by decide +kernel
theorem dX9_countOf_38 : decode cX9_countOf 38 = .ok (.istore 4, 2) := by decide +kernel
theorem dX9_countOf_40 : decode cX9_countOf 40 = .ok (.iinc 5 1, 3) := by decide +kernel
theorem dX9_countOf_43 : decode cX9_countOf 43 = .ok (.goto (-24), 3) := by decide +kernel
theorem dX9_countOf_46 : decode cX9_countOf 46 = .ok (.iload_n 2, 1) := by decide +kernel
theorem dX9_countOf_47 : decode cX9_countOf 47 = .ok (.iconst (-1), 1) := by decide +kernel
theorem dX9_countOf_48 : decode cX9_countOf 48 = .ok (.if_icmp .ne 7, 3) := by decide +kernel
theorem dX9_countOf_51 : decode cX9_countOf 51 = .ok (.iconst (-1), 1) := by decide +kernel
theorem dX9_countOf_52 : decode cX9_countOf 52 = .ok (.goto 5, 3) := by decide +kernel
theorem dX9_countOf_55 : decode cX9_countOf 55 = .ok (.iload 4, 2) := by decide +kernel
theorem dX9_countOf_57 : decode cX9_countOf 57 = .ok (.ireturn, 1) := by decide +kernel
theorem dX9_count_0 : decode cX9_count 0 = .ok (.aload_n 0, 1) := by decide +kernel
theorem dX9_count_1 : decode cX9_count 1 = .ok (.iload_n 1, 1) := by decide +kernel
theorem dX9_count_2 : decode cX9_count 2 = .ok (.iconst 1, 1) := by decide +kernel
theorem dX9_count_3 : decode cX9_count 3 = .ok (.bipush 100, 2) := by decide +kernel
theorem dX9_count_5 : decode cX9_count 5 = .ok (.invokestatic 63, 3) := by decide +kernel
theorem dX9_count_8 : decode cX9_count 8 = .ok (.ifCond .eq 7, 3) := by decide +kernel
theorem dX9_count_11 : decode cX9_count 11 = .ok (.iconst 0, 1) := by decide +kernel
theorem dX9_count_12 : decode cX9_count 12 = .ok (.goto 4, 3) := by decide +kernel
theorem dX9_count_15 : decode cX9_count 15 = .ok (.iconst 1, 1) := by decide +kernel
theorem dX9_count_16 : decode cX9_count 16 = .ok (.invokevirtual 74, 3) := by decide +kernel
theorem dX9_count_19 : decode cX9_count 19 = .ok (.ifCond .eq 11, 3) := by decide +kernel
theorem dX9_count_22 : decode cX9_count 22 = .ok (.aload_n 0, 1) := by decide +kernel
theorem dX9_count_23 : decode cX9_count 23 = .ok (.iload_n 1, 1) := by decide +kernel
theorem dX9_count_24 : decode cX9_count 24 = .ok (.invokevirtual 153, 3) := by decide +kernel
theorem dX9_count_27 : decode cX9_count 27 = .ok (.goto 4, 3) := by decide +kernel
theorem dX9_count_30 : decode cX9_count 30 = .ok (.iconst 0, 1) := by decide +kernel
theorem dX9_count_31 : decode cX9_count 31 = .ok (.ireturn, 1) := by decide +kernel
theorem dX9_countAnew_0 : decode cX9_countAnew 0 = .ok (.aload_n 0, 1) := by decide +kernel
theorem dX9_countAnew_1 : decode cX9_countAnew 1 = .ok (.iload_n 1, 1) := by decide +kernel
theorem dX9_countAnew_2 : decode cX9_countAnew 2 = .ok (.iconst 1, 1) := by decide +kernel
theorem dX9_countAnew_3 : decode cX9_countAnew 3 = .ok (.bipush 100, 2) := by decide +kernel
theorem dX9_countAnew_5 : decode cX9_countAnew 5 = .ok (.invokestatic 63, 3) := by decide +kernel
theorem dX9_countAnew_8 : decode cX9_countAnew 8 = .ok (.ifCond .eq 7, 3) := by decide +kernel
theorem dX9_countAnew_11 : decode cX9_countAnew 11 = .ok (.iconst 0, 1) := by decide +kernel
theorem dX9_countAnew_12 : decode cX9_countAnew 12 = .ok (.goto 4, 3) := by decide +kernel
theorem dX9_countAnew_15 : decode cX9_countAnew 15 = .ok (.iconst 1, 1) := by decide +kernel
theorem dX9_countAnew_16 : decode cX9_countAnew 16 = .ok (.invokevirtual 74, 3) := by decide +kernel
theorem dX9_countAnew_19 : decode cX9_countAnew 19 = .ok (.ifCond .eq 11, 3) := by decide +kernel
theorem dX9_countAnew_22 : decode cX9_countAnew 22 = .ok (.aload_n 0, 1) := by decide +kernel
theorem dX9_countAnew_23 : decode cX9_countAnew 23 = .ok (.iload_n 1, 1) := by decide +kernel
theorem dX9_countAnew_24 : decode cX9_countAnew 24 = .ok (.invokevirtual 153, 3) := by decide +kernel
theorem dX9_countAnew_27 : decode cX9_countAnew 27 = .ok (.goto 4, 3) := by decide +kernel
theorem dX9_countAnew_30 : decode cX9_countAnew 30 = .ok (.iconst 0, 1) := by decide +kernel
theorem dX9_countAnew_31 : decode cX9_countAnew 31 = .ok (.ireturn, 1) := by decide +kernel
theorem dX9_rows_0 : decode cX9_rows 0 = .ok (.aload_n 0, 1) := by decide +kernel
theorem dX9_rows_1 : decode cX9_rows 1 = .ok (.iload_n 1, 1) := by decide +kernel
theorem dX9_rows_2 : decode cX9_rows 2 = .ok (.iconst 1, 1) := by decide +kernel
theorem dX9_rows_3 : decode cX9_rows 3 = .ok (.sipush 2000, 3) := by decide +kernel
theorem dX9_rows_6 : decode cX9_rows 6 = .ok (.invokestatic 63, 3) := by decide +kernel
theorem dX9_rows_9 : decode cX9_rows 9 = .ok (.ifCond .eq 7, 3) := by decide +kernel
theorem dX9_rows_12 : decode cX9_rows 12 = .ok (.iconst 0, 1) := by decide +kernel
theorem dX9_rows_13 : decode cX9_rows 13 = .ok (.goto 4, 3) := by decide +kernel
theorem dX9_rows_16 : decode cX9_rows 16 = .ok (.iconst 1, 1) := by decide +kernel
theorem dX9_rows_17 : decode cX9_rows 17 = .ok (.invokevirtual 74, 3) := by decide +kernel
theorem dX9_rows_20 : decode cX9_rows 20 = .ok (.ifCond .ne 5, 3) := by decide +kernel
theorem dX9_rows_23 : decode cX9_rows 23 = .ok (.iconst 0, 1) := by decide +kernel
theorem dX9_rows_24 : decode cX9_rows 24 = .ok (.ireturn, 1) := by decide +kernel
theorem dX9_rows_25 : decode cX9_rows 25 = .ok (.aload_n 0, 1) := by decide +kernel
theorem dX9_rows_26 : decode cX9_rows 26 = .ok (.invokevirtual 147, 3) := by decide +kernel
theorem dX9_rows_29 : decode cX9_rows 29 = .ok (.istore_n 2, 1) := by decide +kernel
theorem dX9_rows_30 : decode cX9_rows 30 = .ok (.aload_n 0, 1) := by decide +kernel
theorem dX9_rows_31 : decode cX9_rows 31 = .ok (.invokevirtual 97, 3) := by decide +kernel
theorem dX9_rows_34 : decode cX9_rows 34 = .ok (.iconst 1, 1) := by decide +kernel
theorem dX9_rows_35 : decode cX9_rows 35 = .ok (.istore_n 3, 1) := by decide +kernel
theorem dX9_rows_36 : decode cX9_rows 36 = .ok (.bipush 6, 2) := by decide +kernel
theorem dX9_rows_38 : decode cX9_rows 38 = .ok (.istore 4, 2) := by decide +kernel
theorem dX9_rows_40 : decode cX9_rows 40 = .ok (.iload_n 2, 1) := by decide +kernel
theorem dX9_rows_41 : decode cX9_rows 41 = .ok (.iconst (-1), 1) := by decide +kernel
theorem dX9_rows_42 : decode cX9_rows 42 = .ok (.if_icmp .eq 32, 3) := by decide +kernel
theorem dX9_rows_45 : decode cX9_rows 45 = .ok (.iload 4, 2) := by decide +kernel
theorem dX9_rows_47 : decode cX9_rows 47 = .ok (.iload_n 1, 1) := by decide +kernel
theorem dX9_rows_48 : decode cX9_rows 48 = .ok (.if_icmp .ge 26, 3) := by decide +kernel
theorem dX9_rows_51 : decode cX9_rows 51 = .ok (.iload_n 3, 1) := by decide +kernel
theorem dX9_rows_52 : decode cX9_rows 52 = .ok (.sipush 1000, 3) := by decide +kernel
theorem dX9_rows_55 : decode cX9_rows 55 = .ok (.if_icmp .ge 19, 3) := by decide +kernel
theorem dX9_rows_58 : decode cX9_rows 58 = .ok (.iinc 3 1, 3) := by decide +kernel
theorem dX9_rows_61 : decode cX9_rows 61 = .ok (.iload 4, 2) := by decide +kernel
theorem dX9_rows_63 : decode cX9_rows 63 = .ok (.iload_n 2, 1) := by decide +kernel
theorem dX9_rows_64 : decode cX9_rows 64 = .ok (.iload_n 3, 1) := by decide +kernel
theorem dX9_rows_65 : decode cX9_rows 65 = .ok (.invokestatic 150, 3) := by decide +kernel
theorem dX9_rows_68 : decode cX9_rows 68 = .ok (.iadd, 1) := by decide +kernel
theorem dX9_rows_69 : decode cX9_rows 69 = .ok (.istore 4, 2) := by decide +kernel
theorem dX9_rows_71 : decode cX9_rows 71 = .ok (.goto (-31), 3) := by decide +kernel
theorem dX9_rows_74 : decode cX9_rows 74 = .ok (.iload_n 2, 1) := by decide +kernel
theorem dX9_rows_75 : decode cX9_rows 75 = .ok (.iconst (-1), 1) := by decide +kernel
theorem dX9_rows_76 : decode cX9_rows 76 = .ok (.if_icmp .eq 9, 3) := by decide +kernel
theorem dX9_rows_79 : decode cX9_rows 79 = .ok (.iload 4, 2) := by decide +kernel
theorem dX9_rows_81 : decode cX9_rows 81 = .ok (.iload_n 1, 1) := by decide +kernel
theorem dX9_rows_82 : decode cX9_rows 82 = .ok (.if_icmp .ge 7, 3) := by decide +kernel
theorem dX9_rows_85 : decode cX9_rows 85 = .ok (.iconst (-1), 1) := by decide +kernel
theorem dX9_rows_86 : decode cX9_rows 86 = .ok (.goto 4, 3) := by decide +kernel
theorem dX9_rows_89 : decode cX9_rows 89 = .ok (.iload_n 3, 1) := by decide +kernel
theorem dX9_rows_90 : decode cX9_rows 90 = .ok (.ireturn, 1) := by decide +kernel
theorem dX9_around_0 : decode cX9_around 0 = .ok (.iconst 0, 1) := by decide +kernel
theorem dX9_around_1 : decode cX9_around 1 = .ok (.istore_n 1, 1) := by decide +kernel
theorem dX9_around_2 : decode cX9_around 2 = .ok (.iconst 0, 1) := by decide +kernel
theorem dX9_around_3 : decode cX9_around 3 = .ok (.istore_n 2, 1) := by decide +kernel
theorem dX9_around_4 : decode cX9_around 4 = .ok (.iload_n 2, 1) := by decide +kernel
theorem dX9_around_5 : decode cX9_around 5 = .ok (.bipush 8, 2) := by decide +kernel
theorem dX9_around_7 : decode cX9_around 7 = .ok (.if_icmp .ge 18, 3) := by decide +kernel
theorem dX9_around_10 : decode cX9_around 10 = .ok (.iload_n 1, 1) := by decide +kernel
theorem dX9_around_11 : decode cX9_around 11 = .ok (.aload_n 0, 1) := by decide +kernel
theorem dX9_around_12 : decode cX9_around 12 = .ok (.getfield 50, 3) := by decide +kernel
theorem dX9_around_15 : decode cX9_around 15 = .ok (.iload_n 2, 1) := by decide +kernel
theorem dX9_around_16 : decode cX9_around 16 = .ok (.iaload, 1) := by decide +kernel
theorem dX9_around_17 : decode cX9_around 17 = .ok (.iadd, 1) := by decide +kernel
theorem dX9_around_18 : decode cX9_around 18 = .ok (.istore_n 1, 1) := by decide +kernel
theorem dX9_around_19 : decode cX9_around 19 = .ok (.iinc 2 1, 3) := by decide +kernel
theorem dX9_around_22 : decode cX9_around 22 = .ok (.goto (-18), 3) := by decide +kernel
theorem dX9_around_25 : decode cX9_around 25 = .ok (.iload_n 1, 1) := by decide +kernel
theorem dX9_around_26 : decode cX9_around 26 = .ok (.sipush 785, 3) := by decide +kernel
theorem dX9_around_29 : decode cX9_around 29 = .ok (.imul, 1) := by decide +kernel
theorem dX9_around_30 : decode cX9_around 30 = .ok (.sipush 1000, 3) := by decide +kernel
theorem dX9_around_33 : decode cX9_around 33 = .ok (.idiv, 1) := by decide +kernel
theorem dX9_around_34 : decode cX9_around 34 = .ok (.ireturn, 1) := by decide +kernel
theorem dX9_measure_0 : decode cX9_measure 0 = .ok (.aload_n 0, 1) := by decide +kernel
theorem dX9_measure_1 : decode cX9_measure 1 = .ok (.iload_n 1, 1) := by decide +kernel
theorem dX9_measure_2 : decode cX9_measure 2 = .ok (.iconst 0, 1) := by decide +kernel
theorem dX9_measure_3 : decode cX9_measure 3 = .ok (.bipush 7, 2) := by decide +kernel
theorem dX9_measure_5 : decode cX9_measure 5 = .ok (.invokestatic 63, 3) := by decide +kernel
theorem dX9_measure_8 : decode cX9_measure 8 = .ok (.ifCond .ne 7, 3) := by decide +kernel
theorem dX9_measure_11 : decode cX9_measure 11 = .ok (.iconst 1, 1) := by decide +kernel
theorem dX9_measure_12 : decode cX9_measure 12 = .ok (.goto 19, 3) := by decide +kernel
theorem dX9_measure_15 : decode cX9_measure 15 = .ok (.iload_n 2, 1) := by decide +kernel
theorem dX9_measure_16 : decode cX9_measure 16 = .ok (.iconst 0, 1) := by decide +kernel
theorem dX9_measure_17 : decode cX9_measure 17 = .ok (.sipush 200, 3) := by decide +kernel
theorem dX9_measure_20 : decode cX9_measure 20 = .ok (.invokestatic 63, 3) := by decide +kernel
theorem dX9_measure_23 : decode cX9_measure 23 = .ok (.ifCond .eq 7, 3) := by decide +kernel
theorem dX9_measure_26 : decode cX9_measure 26 = .ok (.iconst 0, 1) := by decide +kernel
theorem dX9_measure_27 : decode cX9_measure 27 = .ok (.goto 4, 3) := by decide +kernel
theorem dX9_measure_30 : decode cX9_measure 30 = .ok (.iconst 2, 1) := by decide +kernel
theorem dX9_measure_31 : decode cX9_measure 31 = .ok (.invokevirtual 74, 3) := by decide +kernel
theorem dX9_measure_34 : decode cX9_measure 34 = .ok (.ifCond .ne 5, 3) := by decide +kernel
theorem dX9_measure_37 : decode cX9_measure 37 = .ok (.iconst 0, 1) := by decide +kernel
theorem dX9_measure_38 : decode cX9_measure 38 = .ok (.ireturn, 1) := by decide +kernel
theorem dX9_measure_39 : decode cX9_measure 39 = .ok (.aload_n 0, 1) := by decide +kernel
theorem dX9_measure_40 : decode cX9_measure 40 = .ok (.getfield 50, 3) := by decide +kernel
theorem dX9_measure_43 : decode cX9_measure 43 = .ok (.iload_n 1, 1) := by decide +kernel
theorem dX9_measure_44 : decode cX9_measure 44 = .ok (.iload_n 2, 1) := by decide +kernel
theorem dX9_measure_45 : decode cX9_measure 45 = .ok (.iastore, 1) := by decide +kernel
theorem dX9_measure_46 : decode cX9_measure 46 = .ok (.aload_n 0, 1) := by decide +kernel
theorem dX9_measure_47 : decode cX9_measure 47 = .ok (.invokevirtual 156, 3) := by decide +kernel
theorem dX9_measure_50 : decode cX9_measure 50 = .ok (.ireturn, 1) := by decide +kernel
theorem dX9_fits_0 : decode cX9_fits 0 = .ok (.aload_n 0, 1) := by decide +kernel
theorem dX9_fits_1 : decode cX9_fits 1 = .ok (.aload_n 0, 1) := by decide +kernel
theorem dX9_fits_2 : decode cX9_fits 2 = .ok (.iload_n 1, 1) := by decide +kernel
theorem dX9_fits_3 : decode cX9_fits 3 = .ok (.invokevirtual 67, 3) := by decide +kernel
theorem dX9_fits_6 : decode cX9_fits 6 = .ok (.ifCond .eq 7, 3) := by decide +kernel
theorem dX9_fits_9 : decode cX9_fits 9 = .ok (.iconst 0, 1) := by decide +kernel
theorem dX9_fits_10 : decode cX9_fits 10 = .ok (.goto 4, 3) := by decide +kernel
theorem dX9_fits_13 : decode cX9_fits 13 = .ok (.iconst 1, 1) := by decide +kernel
theorem dX9_fits_14 : decode cX9_fits 14 = .ok (.invokevirtual 74, 3) := by decide +kernel
theorem dX9_fits_17 : decode cX9_fits 17 = .ok (.ifCond .eq 30, 3) := by decide +kernel
theorem dX9_fits_20 : decode cX9_fits 20 = .ok (.aload_n 0, 1) := by decide +kernel
theorem dX9_fits_21 : decode cX9_fits 21 = .ok (.getfield 19, 3) := by decide +kernel
theorem dX9_fits_24 : decode cX9_fits 24 = .ok (.bipush 6, 2) := by decide +kernel
theorem dX9_fits_26 : decode cX9_fits 26 = .ok (.iload_n 1, 1) := by decide +kernel
theorem dX9_fits_27 : decode cX9_fits 27 = .ok (.imul, 1) := by decide +kernel
theorem dX9_fits_28 : decode cX9_fits 28 = .ok (.iaload, 1) := by decide +kernel
theorem dX9_fits_29 : decode cX9_fits 29 = .ok (.aload_n 0, 1) := by decide +kernel
theorem dX9_fits_30 : decode cX9_fits 30 = .ok (.invokevirtual 156, 3) := by decide +kernel
theorem dX9_fits_33 : decode cX9_fits 33 = .ok (.isub, 1) := by decide +kernel
theorem dX9_fits_34 : decode cX9_fits 34 = .ok (.iconst 0, 1) := by decide +kernel
theorem dX9_fits_35 : decode cX9_fits 35 = .ok (.bipush 12, 2) := by decide +kernel
theorem dX9_fits_37 : decode cX9_fits 37 = .ok (.invokestatic 63, 3) := by decide +kernel
theorem dX9_fits_40 : decode cX9_fits 40 = .ok (.ifCond .eq 7, 3) := by decide +kernel
theorem dX9_fits_43 : decode cX9_fits 43 = .ok (.iconst 1, 1) := by decide +kernel
theorem dX9_fits_44 : decode cX9_fits 44 = .ok (.goto 4, 3) := by decide +kernel
theorem dX9_fits_47 : decode cX9_fits 47 = .ok (.iconst 0, 1) := by decide +kernel
theorem dX9_fits_48 : decode cX9_fits 48 = .ok (.ireturn, 1) := by decide +kernel
theorem dX9_size_0 : decode cX9_size 0 = .ok (.aload_n 0, 1) := by decide +kernel
theorem dX9_size_1 : decode cX9_size 1 = .ok (.iload_n 1, 1) := by decide +kernel
theorem dX9_size_2 : decode cX9_size 2 = .ok (.iconst 0, 1) := by decide +kernel
theorem dX9_size_3 : decode cX9_size 3 = .ok (.iconst 3, 1) := by decide +kernel
theorem dX9_size_4 : decode cX9_size 4 = .ok (.invokestatic 63, 3) := by decide +kernel
theorem dX9_size_7 : decode cX9_size 7 = .ok (.ifCond .eq 7, 3) := by decide +kernel
theorem dX9_size_10 : decode cX9_size 10 = .ok (.iconst 0, 1) := by decide +kernel
theorem dX9_size_11 : decode cX9_size 11 = .ok (.goto 4, 3) := by decide +kernel
theorem dX9_size_14 : decode cX9_size 14 = .ok (.iconst 1, 1) := by decide +kernel
theorem dX9_size_15 : decode cX9_size 15 = .ok (.invokevirtual 74, 3) := by decide +kernel
theorem dX9_size_18 : decode cX9_size 18 = .ok (.ifCond .ne 5, 3) := by decide +kernel
theorem dX9_size_21 : decode cX9_size 21 = .ok (.iconst 0, 1) := by decide +kernel
theorem dX9_size_22 : decode cX9_size 22 = .ok (.ireturn, 1) := by decide +kernel
theorem dX9_size_23 : decode cX9_size 23 = .ok (.aload_n 0, 1) := by decide +kernel
theorem dX9_size_24 : decode cX9_size 24 = .ok (.invokevirtual 156, 3) := by decide +kernel
theorem dX9_size_27 : decode cX9_size 27 = .ok (.i2f, 1) := by decide +kernel
theorem dX9_size_28 : decode cX9_size 28 = .ok (.fstore_n 2, 1) := by decide +kernel
theorem dX9_size_29 : decode cX9_size 29 = .ok (.fload_n 2, 1) := by decide +kernel
theorem dX9_size_30 : decode cX9_size 30 = .ok (.ldc 159, 2) := by decide +kernel
theorem dX9_size_32 : decode cX9_size 32 = .ok (.fdiv, 1) := by decide +kernel
theorem dX9_size_33 : decode cX9_size 33 = .ok (.fstore_n 3, 1) := by decide +kernel
theorem dX9_size_34 : decode cX9_size 34 = .ok (.iload_n 1, 1) := by decide +kernel
theorem dX9_size_35 : decode cX9_size 35 = .ok (.ifCond .ne 10, 3) := by decide +kernel
theorem dX9_size_38 : decode cX9_size 38 = .ok (.fload_n 2, 1) := by decide +kernel
theorem dX9_size_39 : decode cX9_size 39 = .ok (.ldc 160, 2) := by decide +kernel
theorem dX9_size_41 : decode cX9_size 41 = .ok (.fdiv, 1) := by decide +kernel
theorem dX9_size_42 : decode cX9_size 42 = .ok (.goto 28, 3) := by decide +kernel
theorem dX9_size_45 : decode cX9_size 45 = .ok (.iload_n 1, 1) := by decide +kernel
theorem dX9_size_46 : decode cX9_size 46 = .ok (.iconst 1, 1) := by decide +kernel
theorem dX9_size_47 : decode cX9_size 47 = .ok (.if_icmp .ne 7, 3) := by decide +kernel
theorem dX9_size_50 : decode cX9_size 50 = .ok (.fload_n 3, 1) := by decide +kernel
theorem dX9_size_51 : decode cX9_size 51 = .ok (.goto 19, 3) := by decide +kernel
theorem dX9_size_54 : decode cX9_size 54 = .ok (.iload_n 1, 1) := by decide +kernel
theorem dX9_size_55 : decode cX9_size 55 = .ok (.iconst 2, 1) := by decide +kernel
theorem dX9_size_56 : decode cX9_size 56 = .ok (.if_icmp .ne 10, 3) := by decide +kernel
theorem dX9_size_59 : decode cX9_size 59 = .ok (.fload_n 3, 1) := by decide +kernel
theorem dX9_size_60 : decode cX9_size 60 = .ok (.ldc 161, 2) := by decide +kernel
theorem dX9_size_62 : decode cX9_size 62 = .ok (.fadd, 1) := by decide +kernel
theorem dX9_size_63 : decode cX9_size 63 = .ok (.goto 7, 3) := by decide +kernel
theorem dX9_size_66 : decode cX9_size 66 = .ok (.fload_n 2, 1) := by decide +kernel
theorem dX9_size_67 : decode cX9_size 67 = .ok (.ldc 162, 2) := by decide +kernel
theorem dX9_size_69 : decode cX9_size 69 = .ok (.fdiv, 1) := by decide +kernel
theorem dX9_size_70 : decode cX9_size 70 = .ok (.invokestatic 141, 3) := by decide +kernel
theorem dX9_size_73 : decode cX9_size 73 = .ok (.ireturn, 1) := by decide +kernel
theorem dX9_air_0 : decode cX9_air 0 = .ok (.aload_n 0, 1) := by decide +kernel
theorem dX9_air_1 : decode cX9_air 1 = .ok (.iload_n 1, 1) := by decide +kernel
theorem dX9_air_2 : decode cX9_air 2 = .ok (.iconst 0, 1) := by decide +kernel
theorem dX9_air_3 : decode cX9_air 3 = .ok (.aload_n 0, 1) := by decide +kernel
theorem dX9_air_4 : decode cX9_air 4 = .ok (.getfield 100, 3) := by decide +kernel
theorem dX9_air_7 : decode cX9_air 7 = .ok (.iconst 1, 1) := by decide +kernel
theorem dX9_air_8 : decode cX9_air 8 = .ok (.isub, 1) := by decide +kernel
theorem dX9_air_9 : decode cX9_air 9 = .ok (.invokestatic 63, 3) := by decide +kernel
theorem dX9_air_12 : decode cX9_air 12 = .ok (.ifCond .eq 7, 3) := by decide +kernel
theorem dX9_air_15 : decode cX9_air 15 = .ok (.iconst 0, 1) := by decide +kernel
theorem dX9_air_16 : decode cX9_air 16 = .ok (.goto 4, 3) := by decide +kernel
theorem dX9_air_19 : decode cX9_air 19 = .ok (.iconst 1, 1) := by decide +kernel
theorem dX9_air_20 : decode cX9_air 20 = .ok (.invokevirtual 74, 3) := by decide +kernel
theorem dX9_air_23 : decode cX9_air 23 = .ok (.ifCond .ne 7, 3) := by decide +kernel
theorem dX9_air_26 : decode cX9_air 26 = .ok (.iconst 0, 1) := by decide +kernel
theorem dX9_air_27 : decode cX9_air 27 = .ok (.goto 22, 3) := by decide +kernel
theorem dX9_air_30 : decode cX9_air 30 = .ok (.iload_n 2, 1) := by decide +kernel
theorem dX9_air_31 : decode cX9_air 31 = .ok (.ifCond .eq 12, 3) := by decide +kernel
theorem dX9_air_34 : decode cX9_air 34 = .ok (.aload_n 0, 1) := by decide +kernel
theorem dX9_air_35 : decode cX9_air 35 = .ok (.getfield 44, 3) := by decide +kernel
theorem dX9_air_38 : decode cX9_air 38 = .ok (.iload_n 1, 1) := by decide +kernel
theorem dX9_air_39 : decode cX9_air 39 = .ok (.iaload, 1) := by decide +kernel
theorem dX9_air_40 : decode cX9_air 40 = .ok (.goto 9, 3) := by decide +kernel
theorem dX9_air_43 : decode cX9_air 43 = .ok (.aload_n 0, 1) := by decide +kernel
theorem dX9_air_44 : decode cX9_air 44 = .ok (.getfield 47, 3) := by decide +kernel
theorem dX9_air_47 : decode cX9_air 47 = .ok (.iload_n 1, 1) := by decide +kernel
theorem dX9_air_48 : decode cX9_air 48 = .ok (.iaload, 1) := by decide +kernel
theorem dX9_air_49 : decode cX9_air 49 = .ok (.ireturn, 1) := by decide +kernel
theorem dX9_grams_0 : decode cX9_grams 0 = .ok (.aload_n 0, 1) := by decide +kernel
theorem dX9_grams_1 : decode cX9_grams 1 = .ok (.iload_n 1, 1) := by decide +kernel
theorem dX9_grams_2 : decode cX9_grams 2 = .ok (.iconst 0, 1) := by decide +kernel
theorem dX9_grams_3 : decode cX9_grams 3 = .ok (.aload_n 0, 1) := by decide +kernel
theorem dX9_grams_4 : decode cX9_grams 4 = .ok (.getfield 90, 3) := by decide +kernel
theorem dX9_grams_7 : decode cX9_grams 7 = .ok (.iconst 1, 1) := by decide +kernel
theorem dX9_grams_8 : decode cX9_grams 8 = .ok (.isub, 1) := by decide +kernel
theorem dX9_grams_9 : decode cX9_grams 9 = .ok (.invokestatic 63, 3) := by decide +kernel
theorem dX9_grams_12 : decode cX9_grams 12 = .ok (.ifCond .eq 7, 3) := by decide +kernel
theorem dX9_grams_15 : decode cX9_grams 15 = .ok (.iconst 0, 1) := by decide +kernel
theorem dX9_grams_16 : decode cX9_grams 16 = .ok (.goto 4, 3) := by decide +kernel
theorem dX9_grams_19 : decode cX9_grams 19 = .ok (.iconst 1, 1) := by decide +kernel
theorem dX9_grams_20 : decode cX9_grams 20 = .ok (.invokevirtual 74, 3) := by decide +kernel
theorem dX9_grams_23 : decode cX9_grams 23 = .ok (.ifCond .eq 12, 3) := by decide +kernel
theorem dX9_grams_26 : decode cX9_grams 26 = .ok (.aload_n 0, 1) := by decide +kernel
theorem dX9_grams_27 : decode cX9_grams 27 = .ok (.getfield 13, 3) := by decide +kernel
theorem dX9_grams_30 : decode cX9_grams 30 = .ok (.iload_n 1, 1) := by decide +kernel
theorem dX9_grams_31 : decode cX9_grams 31 = .ok (.iaload, 1) := by decide +kernel
theorem dX9_grams_32 : decode cX9_grams 32 = .ok (.goto 4, 3) := by decide +kernel
theorem dX9_grams_35 : decode cX9_grams 35 = .ok (.iconst 0, 1) := by decide +kernel
theorem dX9_grams_36 : decode cX9_grams 36 = .ok (.ireturn, 1) := by decide +kernel

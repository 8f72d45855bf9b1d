theorem dX0_init_0 : decode cX0_init 0 = .ok (.aload_n 0, 1) := by decide +kernel
theorem dX0_init_1 : decode cX0_init 1 = .ok (.invokespecial 1, 3) := by decide +kernel
theorem dX0_init_4 : decode cX0_init 4 = .ok (.aload_n 0, 1) := by decide +kernel
theorem dX0_init_5 : decode cX0_init 5 = .ok (.iload_n 1, 1) := by decide +kernel
theorem dX0_init_6 : decode cX0_init 6 = .ok (.putfield 7, 3) := by decide +kernel
theorem dX0_init_9 : decode cX0_init 9 = .ok (.aload_n 0, 1) := by decide +kernel
theorem dX0_init_10 : decode cX0_init 10 = .ok (.iload_n 2, 1) := by decide +kernel
theorem dX0_init_11 : decode cX0_init 11 = .ok (.putfield 13, 3) := by decide +kernel
theorem dX0_init_14 : decode cX0_init 14 = .ok (.return_, 1) := by decide +kernel
theorem dX0_widthFor_0 : decode cX0_widthFor 0 = .ok (.iconst 0, 1) := by decide +kernel
theorem dX0_widthFor_1 : decode cX0_widthFor 1 = .ok (.iload_n 1, 1) := by decide +kernel
theorem dX0_widthFor_2 : decode cX0_widthFor 2 = .ok (.aload_n 0, 1) := by decide +kernel
theorem dX0_widthFor_3 : decode cX0_widthFor 3 = .ok (.getfield 13, 3) := by decide +kernel
theorem dX0_widthFor_6 : decode cX0_widthFor 6 = .ok (.isub, 1) := by decide +kernel
theorem dX0_widthFor_7 : decode cX0_widthFor 7 = .ok (.iconst 1, 1) := by decide +kernel
theorem dX0_widthFor_8 : decode cX0_widthFor 8 = .ok (.iadd, 1) := by decide +kernel
theorem dX0_widthFor_9 : decode cX0_widthFor 9 = .ok (.invokestatic 16, 3) := by decide +kernel
theorem dX0_widthFor_12 : decode cX0_widthFor 12 = .ok (.istore_n 2, 1) := by decide +kernel
theorem dX0_widthFor_13 : decode cX0_widthFor 13 = .ok (.bipush 50, 2) := by decide +kernel
theorem dX0_widthFor_15 : decode cX0_widthFor 15 = .ok (.aload_n 0, 1) := by decide +kernel
theorem dX0_widthFor_16 : decode cX0_widthFor 16 = .ok (.getfield 7, 3) := by decide +kernel
theorem dX0_widthFor_19 : decode cX0_widthFor 19 = .ok (.aload_n 0, 1) := by decide +kernel
theorem dX0_widthFor_20 : decode cX0_widthFor 20 = .ok (.getfield 7, 3) := by decide +kernel
theorem dX0_widthFor_23 : decode cX0_widthFor 23 = .ok (.bipush 10, 2) := by decide +kernel
theorem dX0_widthFor_25 : decode cX0_widthFor 25 = .ok (.idiv, 1) := by decide +kernel
theorem dX0_widthFor_26 : decode cX0_widthFor 26 = .ok (.iload_n 2, 1) := by decide +kernel
theorem dX0_widthFor_27 : decode cX0_widthFor 27 = .ok (.imul, 1) := by decide +kernel
theorem dX0_widthFor_28 : decode cX0_widthFor 28 = .ok (.isub, 1) := by decide +kernel
theorem dX0_widthFor_29 : decode cX0_widthFor 29 = .ok (.invokestatic 16, 3) := by decide +kernel
theorem dX0_widthFor_32 : decode cX0_widthFor 32 = .ok (.ireturn, 1) := by decide +kernel
theorem dX1_init_0 : decode cX1_init 0 = .ok (.aload_n 0, 1) := by decide +kernel
theorem dX1_init_1 : decode cX1_init 1 = .ok (.invokespecial 3, 3) := by decide +kernel
theorem dX1_init_4 : decode cX1_init 4 = .ok (.aload_n 0, 1) := by decide +kernel
theorem dX1_init_5 : decode cX1_init 5 = .ok (.bipush 6, 2) := by decide +kernel
theorem dX1_init_7 : decode cX1_init 7 = .ok (.newarray .int, 2) := by decide +kernel
theorem dX1_init_9 : decode cX1_init 9 = .ok (.putfield 9, 3) := by decide +kernel
theorem dX1_init_12 : decode cX1_init 12 = .ok (.aload_n 0, 1) := by decide +kernel
theorem dX1_init_13 : decode cX1_init 13 = .ok (.bipush 6, 2) := by decide +kernel
theorem dX1_init_15 : decode cX1_init 15 = .ok (.newarray .int, 2) := by decide +kernel
theorem dX1_init_17 : decode cX1_init 17 = .ok (.putfield 15, 3) := by decide +kernel
theorem dX1_init_20 : decode cX1_init 20 = .ok (.aload_n 0, 1) := by decide +kernel
theorem dX1_init_21 : decode cX1_init 21 = .ok (.bipush 60, 2) := by decide +kernel
theorem dX1_init_23 : decode cX1_init 23 = .ok (.putfield 18, 3) := by decide +kernel
theorem dX1_init_26 : decode cX1_init 26 = .ok (.aload_n 0, 1) := by decide +kernel
theorem dX1_init_27 : decode cX1_init 27 = .ok (.iconst 0, 1) := by decide +kernel
theorem dX1_init_28 : decode cX1_init 28 = .ok (.putfield 22, 3) := by decide +kernel
theorem dX1_init_31 : decode cX1_init 31 = .ok (.aload_n 0, 1) := by decide +kernel
theorem dX1_init_32 : decode cX1_init 32 = .ok (.aconst_null, 1) := by decide +kernel
theorem dX1_init_33 : decode cX1_init 33 = .ok (.putfield 25, 3) := by decide +kernel
theorem dX1_init_36 : decode cX1_init 36 = .ok (.aload_n 0, 1) := by decide +kernel
theorem dX1_init_37 : decode cX1_init 37 = .ok (.iconst 0, 1) := by decide +kernel
theorem dX1_init_38 : decode cX1_init 38 = .ok (.putfield 29, 3) := by decide +kernel
theorem dX1_init_41 : decode cX1_init 41 = .ok (.aload_n 0, 1) := by decide +kernel
theorem dX1_init_42 : decode cX1_init 42 = .ok (.aload_n 1, 1) := by decide +kernel
theorem dX1_init_43 : decode cX1_init 43 = .ok (.putfield 33, 3) := by decide +kernel
theorem dX1_init_46 : decode cX1_init 46 = .ok (.iconst 0, 1) := by decide +kernel
theorem dX1_init_47 : decode cX1_init 47 = .ok (.istore 4, 2) := by decide +kernel
theorem dX1_init_49 : decode cX1_init 49 = .ok (.iconst 0, 1) := by decide +kernel
theorem dX1_init_50 : decode cX1_init 50 = .ok (.istore 5, 2) := by decide +kernel
theorem dX1_init_52 : decode cX1_init 52 = .ok (.iload 5, 2) := by decide +kernel
theorem dX1_init_54 : decode cX1_init 54 = .ok (.bipush 6, 2) := by decide +kernel
theorem dX1_init_56 : decode cX1_init 56 = .ok (.if_icmp .ge 20, 3) := by decide +kernel
theorem dX1_init_59 : decode cX1_init 59 = .ok (.iload 4, 2) := by decide +kernel
theorem dX1_init_61 : decode cX1_init 61 = .ok (.iload 5, 2) := by decide +kernel
theorem dX1_init_63 : decode cX1_init 63 = .ok (.iload_n 3, 1) := by decide +kernel
theorem dX1_init_64 : decode cX1_init 64 = .ok (.invokestatic 37, 3) := by decide +kernel
theorem dX1_init_67 : decode cX1_init 67 = .ok (.iadd, 1) := by decide +kernel
theorem dX1_init_68 : decode cX1_init 68 = .ok (.istore 4, 2) := by decide +kernel
theorem dX1_init_70 : decode cX1_init 70 = .ok (.iinc 5 1, 3) := by decide +kernel
theorem dX1_init_73 : decode cX1_init 73 = .ok (.goto (-21), 3) := by decide +kernel
theorem dX1_init_76 : decode cX1_init 76 = .ok (.iload_n 2, 1) := by decide +kernel
theorem dX1_init_77 : decode cX1_init 77 = .ok (.istore 5, 2) := by decide +kernel
theorem dX1_init_79 : decode cX1_init 79 = .ok (.iconst 0, 1) := by decide +kernel
theorem dX1_init_80 : decode cX1_init 80 = .ok (.istore 6, 2) := by decide +kernel
theorem dX1_init_82 : decode cX1_init 82 = .ok (.iload 6, 2) := by decide +kernel
theorem dX1_init_84 : decode cX1_init 84 = .ok (.bipush 6, 2) := by decide +kernel
theorem dX1_init_86 : decode cX1_init 86 = .ok (.if_icmp .ge 60, 3) := by decide +kernel
theorem dX1_init_89 : decode cX1_init 89 = .ok (.aload_n 0, 1) := by decide +kernel
theorem dX1_init_90 : decode cX1_init 90 = .ok (.getfield 9, 3) := by decide +kernel
theorem dX1_init_93 : decode cX1_init 93 = .ok (.iload 6, 2) := by decide +kernel
theorem dX1_init_95 : decode cX1_init 95 = .ok (.iload 6, 2) := by decide +kernel
theorem dX1_init_97 : decode cX1_init 97 = .ok (.invokestatic 41, 3) := by decide +kernel
theorem dX1_init_100 : decode cX1_init 100 = .ok (.iastore, 1) := by decide +kernel
theorem dX1_init_101 : decode cX1_init 101 = .ok (.aload_n 0, 1) := by decide +kernel
theorem dX1_init_102 : decode cX1_init 102 = .ok (.getfield 15, 3) := by decide +kernel
theorem dX1_init_105 : decode cX1_init 105 = .ok (.iload 6, 2) := by decide +kernel
theorem dX1_init_107 : decode cX1_init 107 = .ok (.iload 4, 2) := by decide +kernel
theorem dX1_init_109 : decode cX1_init 109 = .ok (.ifCond .gt 7, 3) := by decide +kernel
theorem dX1_init_112 : decode cX1_init 112 = .ok (.iconst 0, 1) := by decide +kernel
theorem dX1_init_113 : decode cX1_init 113 = .ok (.goto 14, 3) := by decide +kernel
theorem dX1_init_116 : decode cX1_init 116 = .ok (.iload_n 2, 1) := by decide +kernel
theorem dX1_init_117 : decode cX1_init 117 = .ok (.iload 6, 2) := by decide +kernel
theorem dX1_init_119 : decode cX1_init 119 = .ok (.iload_n 3, 1) := by decide +kernel
theorem dX1_init_120 : decode cX1_init 120 = .ok (.invokestatic 37, 3) := by decide +kernel
theorem dX1_init_123 : decode cX1_init 123 = .ok (.imul, 1) := by decide +kernel
theorem dX1_init_124 : decode cX1_init 124 = .ok (.iload 4, 2) := by decide +kernel
theorem dX1_init_126 : decode cX1_init 126 = .ok (.idiv, 1) := by decide +kernel
theorem dX1_init_127 : decode cX1_init 127 = .ok (.iastore, 1) := by decide +kernel
theorem dX1_init_128 : decode cX1_init 128 = .ok (.iload 5, 2) := by decide +kernel
theorem dX1_init_130 : decode cX1_init 130 = .ok (.aload_n 0, 1) := by decide +kernel
theorem dX1_init_131 : decode cX1_init 131 = .ok (.getfield 15, 3) := by decide +kernel
theorem dX1_init_134 : decode cX1_init 134 = .ok (.iload 6, 2) := by decide +kernel
theorem dX1_init_136 : decode cX1_init 136 = .ok (.iaload, 1) := by decide +kernel
theorem dX1_init_137 : decode cX1_init 137 = .ok (.isub, 1) := by decide +kernel
theorem dX1_init_138 : decode cX1_init 138 = .ok (.istore 5, 2) := by decide +kernel
theorem dX1_init_140 : decode cX1_init 140 = .ok (.iinc 6 1, 3) := by decide +kernel
theorem dX1_init_143 : decode cX1_init 143 = .ok (.goto (-61), 3) := by decide +kernel
theorem dX1_init_146 : decode cX1_init 146 = .ok (.aload_n 0, 1) := by decide +kernel
theorem dX1_init_147 : decode cX1_init 147 = .ok (.getfield 15, 3) := by decide +kernel
theorem dX1_init_150 : decode cX1_init 150 = .ok (.iconst 0, 1) := by decide +kernel
theorem dX1_init_151 : decode cX1_init 151 = .ok (.dup2, 1) := by decide +kernel
theorem dX1_init_152 : decode cX1_init 152 = .ok (.iaload, 1) := by decide +kernel
theorem dX1_init_153 : decode cX1_init 153 = .ok (.iload 5, 2) := by decide +kernel
theorem dX1_init_155 : decode cX1_init 155 = .ok (.iadd, 1) := by decide +kernel
theorem dX1_init_156 : decode cX1_init 156 = .ok (.iastore, 1) := by decide +kernel
theorem dX1_init_157 : decode cX1_init 157 = .ok (.return_, 1) := by decide +kernel
theorem dX1_partOf_0 : decode cX1_partOf 0 = .ok (.bipush 10, 2) := by decide +kernel
theorem dX1_partOf_2 : decode cX1_partOf 2 = .ok (.iload_n 1, 1) := by decide +kernel
theorem dX1_partOf_3 : decode cX1_partOf 3 = .ok (.iload_n 0, 1) := by decide +kernel
theorem dX1_partOf_4 : decode cX1_partOf 4 = .ok (.imul, 1) := by decide +kernel
theorem dX1_partOf_5 : decode cX1_partOf 5 = .ok (.iadd, 1) := by decide +kernel
theorem dX1_partOf_6 : decode cX1_partOf 6 = .ok (.ireturn, 1) := by decide +kernel
theorem dX1_widthFormed_0 : decode cX1_widthFormed 0 = .ok (.sipush 1200, 3) := by decide +kernel
theorem dX1_widthFormed_3 : decode cX1_widthFormed 3 = .ok (.sipush 150, 3) := by decide +kernel
theorem dX1_widthFormed_6 : decode cX1_widthFormed 6 = .ok (.iload_n 0, 1) := by decide +kernel
theorem dX1_widthFormed_7 : decode cX1_widthFormed 7 = .ok (.imul, 1) := by decide +kernel
theorem dX1_widthFormed_8 : decode cX1_widthFormed 8 = .ok (.isub, 1) := by decide +kernel
theorem dX1_widthFormed_9 : decode cX1_widthFormed 9 = .ok (.ireturn, 1) := by decide +kernel
theorem dX1_widthOf_0 : decode cX1_widthOf 0 = .ok (.iload_n 1, 1) := by decide +kernel
theorem dX1_widthOf_1 : decode cX1_widthOf 1 = .ok (.ifCond .lt 12, 3) := by decide +kernel
theorem dX1_widthOf_4 : decode cX1_widthOf 4 = .ok (.iload_n 1, 1) := by decide +kernel
theorem dX1_widthOf_5 : decode cX1_widthOf 5 = .ok (.aload_n 0, 1) := by decide +kernel
theorem dX1_widthOf_6 : decode cX1_widthOf 6 = .ok (.getfield 9, 3) := by decide +kernel
theorem dX1_widthOf_9 : decode cX1_widthOf 9 = .ok (.arraylength, 1) := by decide +kernel
theorem dX1_widthOf_10 : decode cX1_widthOf 10 = .ok (.if_icmp .lt 7, 3) := by decide +kernel
theorem dX1_widthOf_13 : decode cX1_widthOf 13 = .ok (.iconst 0, 1) := by decide +kernel
theorem dX1_widthOf_14 : decode cX1_widthOf 14 = .ok (.goto 9, 3) := by decide +kernel
theorem dX1_widthOf_17 : decode cX1_widthOf 17 = .ok (.aload_n 0, 1) := by decide +kernel
theorem dX1_widthOf_18 : decode cX1_widthOf 18 = .ok (.getfield 9, 3) := by decide +kernel
theorem dX1_widthOf_21 : decode cX1_widthOf 21 = .ok (.iload_n 1, 1) := by decide +kernel
theorem dX1_widthOf_22 : decode cX1_widthOf 22 = .ok (.iaload, 1) := by decide +kernel
theorem dX1_widthOf_23 : decode cX1_widthOf 23 = .ok (.ireturn, 1) := by decide +kernel
theorem dX1_gramsOf_0 : decode cX1_gramsOf 0 = .ok (.iload_n 1, 1) := by decide +kernel
theorem dX1_gramsOf_1 : decode cX1_gramsOf 1 = .ok (.ifCond .lt 12, 3) := by decide +kernel
theorem dX1_gramsOf_4 : decode cX1_gramsOf 4 = .ok (.iload_n 1, 1) := by decide +kernel
theorem dX1_gramsOf_5 : decode cX1_gramsOf 5 = .ok (.aload_n 0, 1) := by decide +kernel
theorem dX1_gramsOf_6 : decode cX1_gramsOf 6 = .ok (.getfield 15, 3) := by decide +kernel
theorem dX1_gramsOf_9 : decode cX1_gramsOf 9 = .ok (.arraylength, 1) := by decide +kernel
theorem dX1_gramsOf_10 : decode cX1_gramsOf 10 = .ok (.if_icmp .lt 7, 3) := by decide +kernel
theorem dX1_gramsOf_13 : decode cX1_gramsOf 13 = .ok (.iconst 0, 1) := by decide +kernel
theorem dX1_gramsOf_14 : decode cX1_gramsOf 14 = .ok (.goto 9, 3) := by decide +kernel
theorem dX1_gramsOf_17 : decode cX1_gramsOf 17 = .ok (.aload_n 0, 1) := by decide +kernel
theorem dX1_gramsOf_18 : decode cX1_gramsOf 18 = .ok (.getfield 15, 3) := by decide +kernel
theorem dX1_gramsOf_21 : decode cX1_gramsOf 21 = .ok (.iload_n 1, 1) := by decide +kernel
theorem dX1_gramsOf_22 : decode cX1_gramsOf 22 = .ok (.iaload, 1) := by decide +kernel
theorem dX1_gramsOf_23 : decode cX1_gramsOf 23 = .ok (.ireturn, 1) := by decide +kernel
theorem dX1_thicknessOf_0 : decode cX1_thicknessOf 0 = .ok (.aload_n 0, 1) := by decide +kernel
theorem dX1_thicknessOf_1 : decode cX1_thicknessOf 1 = .ok (.iload_n 1, 1) := by decide +kernel
theorem dX1_thicknessOf_2 : decode cX1_thicknessOf 2 = .ok (.invokevirtual 45, 3) := by decide +kernel
theorem dX1_thicknessOf_5 : decode cX1_thicknessOf 5 = .ok (.aload_n 0, 1) := by decide +kernel
theorem dX1_thicknessOf_6 : decode cX1_thicknessOf 6 = .ok (.getfield 18, 3) := by decide +kernel
theorem dX1_thicknessOf_9 : decode cX1_thicknessOf 9 = .ok (.imul, 1) := by decide +kernel
theorem dX1_thicknessOf_10 : decode cX1_thicknessOf 10 = .ok (.istore_n 2, 1) := by decide +kernel
theorem dX1_thicknessOf_11 : decode cX1_thicknessOf 11 = .ok (.iload_n 2, 1) := by decide +kernel
theorem dX1_thicknessOf_12 : decode cX1_thicknessOf 12 = .ok (.ifCond .gt 7, 3) := by decide +kernel
theorem dX1_thicknessOf_15 : decode cX1_thicknessOf 15 = .ok (.iconst 0, 1) := by decide +kernel
theorem dX1_thicknessOf_16 : decode cX1_thicknessOf 16 = .ok (.goto 13, 3) := by decide +kernel
theorem dX1_thicknessOf_19 : decode cX1_thicknessOf 19 = .ok (.aload_n 0, 1) := by decide +kernel
theorem dX1_thicknessOf_20 : decode cX1_thicknessOf 20 = .ok (.iload_n 1, 1) := by decide +kernel
theorem dX1_thicknessOf_21 : decode cX1_thicknessOf 21 = .ok (.invokevirtual 48, 3) := by decide +kernel
theorem dX1_thicknessOf_24 : decode cX1_thicknessOf 24 = .ok (.ldc 51, 2) := by decide +kernel
theorem dX1_thicknessOf_26 : decode cX1_thicknessOf 26 = .ok (.imul, 1) := by decide +kernel
theorem dX1_thicknessOf_27 : decode cX1_thicknessOf 27 = .ok (.iload_n 2, 1) := by decide +kernel
theorem dX1_thicknessOf_28 : decode cX1_thicknessOf 28 = .ok (.idiv, 1) := by decide +kernel
theorem dX1_thicknessOf_29 : decode cX1_thicknessOf 29 = .ok (.ireturn, 1) := by decide +kernel
theorem dX1_shrink_0 : decode cX1_shrink 0 = .ok (.iconst 0, 1) := by decide +kernel
theorem dX1_shrink_1 : decode cX1_shrink 1 = .ok (.istore_n 1, 1) := by decide +kernel
theorem dX1_shrink_2 : decode cX1_shrink 2 = .ok (.iload_n 1, 1) := by decide +kernel
theorem dX1_shrink_3 : decode cX1_shrink 3 = .ok (.aload_n 0, 1) := by decide +kernel
theorem dX1_shrink_4 : decode cX1_shrink 4 = .ok (.getfield 9, 3) := by decide +kernel
theorem dX1_shrink_7 : decode cX1_shrink 7 = .ok (.arraylength, 1) := by decide +kernel
theorem dX1_shrink_8 : decode cX1_shrink 8 = .ok (.if_icmp .ge 28, 3) := by decide +kernel
theorem dX1_shrink_11 : decode cX1_shrink 11 = .ok (.aload_n 0, 1) := by decide +kernel
theorem dX1_shrink_12 : decode cX1_shrink 12 = .ok (.getfield 9, 3) := by decide +kernel
theorem dX1_shrink_15 : decode cX1_shrink 15 = .ok (.iload_n 1, 1) := by decide +kernel
theorem dX1_shrink_16 : decode cX1_shrink 16 = .ok (.aload_n 0, 1) := by decide +kernel
theorem dX1_shrink_17 : decode cX1_shrink 17 = .ok (.getfield 33, 3) := by decide +kernel
theorem dX1_shrink_20 : decode cX1_shrink 20 = .ok (.aload_n 0, 1) := by decide +kernel
theorem dX1_shrink_21 : decode cX1_shrink 21 = .ok (.getfield 9, 3) := by decide +kernel
theorem dX1_shrink_24 : decode cX1_shrink 24 = .ok (.iload_n 1, 1) := by decide +kernel
theorem dX1_shrink_25 : decode cX1_shrink 25 = .ok (.iaload, 1) := by decide +kernel
theorem dX1_shrink_26 : decode cX1_shrink 26 = .ok (.invokevirtual 52, 3) := by decide +kernel
theorem dX1_shrink_29 : decode cX1_shrink 29 = .ok (.iastore, 1) := by decide +kernel
theorem dX1_shrink_30 : decode cX1_shrink 30 = .ok (.iinc 1 1, 3) := by decide +kernel
theorem dX1_shrink_33 : decode cX1_shrink 33 = .ok (.goto (-31), 3) := by decide +kernel
theorem dX1_shrink_36 : decode cX1_shrink 36 = .ok (.aload_n 0, 1) := by decide +kernel
theorem dX1_shrink_37 : decode cX1_shrink 37 = .ok (.aload_n 0, 1) := by decide +kernel
theorem dX1_shrink_38 : decode cX1_shrink 38 = .ok (.getfield 33, 3) := by decide +kernel
theorem dX1_shrink_41 : decode cX1_shrink 41 = .ok (.aload_n 0, 1) := by decide +kernel
theorem dX1_shrink_42 : decode cX1_shrink 42 = .ok (.getfield 18, 3) := by decide +kernel
theorem dX1_shrink_45 : decode cX1_shrink 45 = .ok (.invokevirtual 57, 3) := by decide +kernel
theorem dX1_shrink_48 : decode cX1_shrink 48 = .ok (.putfield 18, 3) := by decide +kernel
theorem dX1_shrink_51 : decode cX1_shrink 51 = .ok (.aload_n 0, 1) := by decide +kernel
theorem dX1_shrink_52 : decode cX1_shrink 52 = .ok (.dup, 1) := by decide +kernel
theorem dX1_shrink_53 : decode cX1_shrink 53 = .ok (.getfield 22, 3) := by decide +kernel
theorem dX1_shrink_56 : decode cX1_shrink 56 = .ok (.iconst 1, 1) := by decide +kernel
theorem dX1_shrink_57 : decode cX1_shrink 57 = .ok (.iadd, 1) := by decide +kernel
theorem dX1_shrink_58 : decode cX1_shrink 58 = .ok (.putfield 22, 3) := by decide +kernel
theorem dX1_shrink_61 : decode cX1_shrink 61 = .ok (.return_, 1) := by decide +kernel
theorem dX1_refusalOf_0 : decode cX1_refusalOf 0 = .ok (.aload_n 0, 1) := by decide +kernel
theorem dX1_refusalOf_1 : decode cX1_refusalOf 1 = .ok (.invokevirtual 60, 3) := by decide +kernel
theorem dX1_refusalOf_4 : decode cX1_refusalOf 4 = .ok (.ifCond .eq 5, 3) := by decide +kernel
theorem dX1_refusalOf_7 : decode cX1_refusalOf 7 = .ok (.iconst 1, 1) := by decide +kernel
theorem dX1_refusalOf_8 : decode cX1_refusalOf 8 = .ok (.ireturn, 1) := by decide +kernel
theorem dX1_refusalOf_9 : decode cX1_refusalOf 9 = .ok (.iconst 0, 1) := by decide +kernel
theorem dX1_refusalOf_10 : decode cX1_refusalOf 10 = .ok (.istore_n 2, 1) := by decide +kernel
theorem dX1_refusalOf_11 : decode cX1_refusalOf 11 = .ok (.iconst 0, 1) := by decide +kernel
theorem dX1_refusalOf_12 : decode cX1_refusalOf 12 = .ok (.istore_n 3, 1) := by decide +kernel
theorem dX1_refusalOf_13 : decode cX1_refusalOf 13 = .ok (.iload_n 3, 1) := by decide +kernel
theorem dX1_refusalOf_14 : decode cX1_refusalOf 14 = .ok (.bipush 6, 2) := by decide +kernel
theorem dX1_refusalOf_16 : decode cX1_refusalOf 16 = .ok (.if_icmp .ge 77, 3) := by decide +kernel
theorem dX1_refusalOf_19 : decode cX1_refusalOf 19 = .ok (.aload_n 0, 1) := by decide +kernel
theorem dX1_refusalOf_20 : decode cX1_refusalOf 20 = .ok (.iload_n 3, 1) := by decide +kernel
theorem dX1_refusalOf_21 : decode cX1_refusalOf 21 = .ok (.invokevirtual 45, 3) := by decide +kernel
theorem dX1_refusalOf_24 : decode cX1_refusalOf 24 = .ok (.istore 4, 2) := by decide +kernel
theorem dX1_refusalOf_26 : decode cX1_refusalOf 26 = .ok (.aload_n 1, 1) := by decide +kernel
theorem dX1_refusalOf_27 : decode cX1_refusalOf 27 = .ok (.iload_n 3, 1) := by decide +kernel
theorem dX1_refusalOf_28 : decode cX1_refusalOf 28 = .ok (.invokevirtual 64, 3) := by decide +kernel
theorem dX1_refusalOf_31 : decode cX1_refusalOf 31 = .ok (.istore 5, 2) := by decide +kernel
theorem dX1_refusalOf_33 : decode cX1_refusalOf 33 = .ok (.iload 5, 2) := by decide +kernel
theorem dX1_refusalOf_35 : decode cX1_refusalOf 35 = .ok (.iload 4, 2) := by decide +kernel
theorem dX1_refusalOf_37 : decode cX1_refusalOf 37 = .ok (.if_icmp .le 19, 3) := by decide +kernel
theorem dX1_refusalOf_40 : decode cX1_refusalOf 40 = .ok (.aload_n 0, 1) := by decide +kernel
theorem dX1_refusalOf_41 : decode cX1_refusalOf 41 = .ok (.iload 5, 2) := by decide +kernel
theorem dX1_refusalOf_43 : decode cX1_refusalOf 43 = .ok (.iload 4, 2) := by decide +kernel
theorem dX1_refusalOf_45 : decode cX1_refusalOf 45 = .ok (.isub, 1) := by decide +kernel
theorem dX1_refusalOf_46 : decode cX1_refusalOf 46 = .ok (.iload 4, 2) := by decide +kernel
theorem dX1_refusalOf_48 : decode cX1_refusalOf 48 = .ok (.invokevirtual 69, 3) := by decide +kernel
theorem dX1_refusalOf_51 : decode cX1_refusalOf 51 = .ok (.ifCond .eq 5, 3) := by decide +kernel
theorem dX1_refusalOf_54 : decode cX1_refusalOf 54 = .ok (.iconst 2, 1) := by decide +kernel
theorem dX1_refusalOf_55 : decode cX1_refusalOf 55 = .ok (.ireturn, 1) := by decide +kernel
theorem dX1_refusalOf_56 : decode cX1_refusalOf 56 = .ok (.iload_n 2, 1) := by decide +kernel
theorem dX1_refusalOf_57 : decode cX1_refusalOf 57 = .ok (.ifCond .ne 24, 3) := by decide +kernel
theorem dX1_refusalOf_60 : decode cX1_refusalOf 60 = .ok (.iload 5, 2) := by decide +kernel
theorem dX1_refusalOf_62 : decode cX1_refusalOf 62 = .ok (.iload 4, 2) := by decide +kernel
theorem dX1_refusalOf_64 : decode cX1_refusalOf 64 = .ok (.if_icmp .ge 21, 3) := by decide +kernel
theorem dX1_refusalOf_67 : decode cX1_refusalOf 67 = .ok (.aload_n 0, 1) := by decide +kernel
theorem dX1_refusalOf_68 : decode cX1_refusalOf 68 = .ok (.getfield 33, 3) := by decide +kernel
theorem dX1_refusalOf_71 : decode cX1_refusalOf 71 = .ok (.iload 4, 2) := by decide +kernel
theorem dX1_refusalOf_73 : decode cX1_refusalOf 73 = .ok (.invokevirtual 52, 3) := by decide +kernel
theorem dX1_refusalOf_76 : decode cX1_refusalOf 76 = .ok (.iload 5, 2) := by decide +kernel
theorem dX1_refusalOf_78 : decode cX1_refusalOf 78 = .ok (.if_icmp .le 7, 3) := by decide +kernel
theorem dX1_refusalOf_81 : decode cX1_refusalOf 81 = .ok (.iconst 1, 1) := by decide +kernel
theorem dX1_refusalOf_82 : decode cX1_refusalOf 82 = .ok (.goto 4, 3) := by decide +kernel
theorem dX1_refusalOf_85 : decode cX1_refusalOf 85 = .ok (.iconst 0, 1) := by decide +kernel
theorem dX1_refusalOf_86 : decode cX1_refusalOf 86 = .ok (.istore_n 2, 1) := by decide +kernel
theorem dX1_refusalOf_87 : decode cX1_refusalOf 87 = .ok (.iinc 3 1, 3) := by decide +kernel
theorem dX1_refusalOf_90 : decode cX1_refusalOf 90 = .ok (.goto (-77), 3) := by decide +kernel
theorem dX1_refusalOf_93 : decode cX1_refusalOf 93 = .ok (.iload_n 2, 1) := by decide +kernel
theorem dX1_refusalOf_94 : decode cX1_refusalOf 94 = .ok (.ifCond .eq 7, 3) := by decide +kernel
theorem dX1_refusalOf_97 : decode cX1_refusalOf 97 = .ok (.iconst 3, 1) := by decide +kernel
theorem dX1_refusalOf_98 : decode cX1_refusalOf 98 = .ok (.goto 4, 3) := by decide +kernel
theorem dX1_refusalOf_101 : decode cX1_refusalOf 101 = .ok (.iconst 0, 1) := by decide +kernel
theorem dX1_refusalOf_102 : decode cX1_refusalOf 102 = .ok (.ireturn, 1) := by decide +kernel
theorem dX1_hasHole_0 : decode cX1_hasHole 0 = .ok (.iconst 0, 1) := by decide +kernel
theorem dX1_hasHole_1 : decode cX1_hasHole 1 = .ok (.istore_n 1, 1) := by decide +kernel
theorem dX1_hasHole_2 : decode cX1_hasHole 2 = .ok (.iload_n 1, 1) := by decide +kernel
theorem dX1_hasHole_3 : decode cX1_hasHole 3 = .ok (.bipush 6, 2) := by decide +kernel
theorem dX1_hasHole_5 : decode cX1_hasHole 5 = .ok (.if_icmp .ge 21, 3) := by decide +kernel
theorem dX1_hasHole_8 : decode cX1_hasHole 8 = .ok (.aload_n 0, 1) := by decide +kernel
theorem dX1_hasHole_9 : decode cX1_hasHole 9 = .ok (.iload_n 1, 1) := by decide +kernel
theorem dX1_hasHole_10 : decode cX1_hasHole 10 = .ok (.invokevirtual 73, 3) := by decide +kernel
theorem dX1_hasHole_13 : decode cX1_hasHole 13 = .ok (.bipush 40, 2) := by decide +kernel
theorem dX1_hasHole_15 : decode cX1_hasHole 15 = .ok (.if_icmp .ge 5, 3) := by decide +kernel
theorem dX1_hasHole_18 : decode cX1_hasHole 18 = .ok (.iconst 1, 1) := by decide +kernel
theorem dX1_hasHole_19 : decode cX1_hasHole 19 = .ok (.ireturn, 1) := by decide +kernel
theorem dX1_hasHole_20 : decode cX1_hasHole 20 = .ok (.iinc 1 1, 3) := by decide +kernel
theorem dX1_hasHole_23 : decode cX1_hasHole 23 = .ok (.goto (-21), 3) := by decide +kernel
theorem dX1_hasHole_26 : decode cX1_hasHole 26 = .ok (.iconst 0, 1) := by decide +kernel
theorem dX1_hasHole_27 : decode cX1_hasHole 27 = .ok (.ireturn, 1) := by decide +kernel
theorem dX1_isTornBy_0 : decode cX1_isTornBy 0 = .ok (.iload_n 2, 1) := by decide +kernel
theorem dX1_isTornBy_1 : decode cX1_isTornBy 1 = .ok (.ifCond .le 19, 3) := by decide +kernel
theorem dX1_isTornBy_4 : decode cX1_isTornBy 4 = .ok (.bipush 100, 2) := by decide +kernel
theorem dX1_isTornBy_6 : decode cX1_isTornBy 6 = .ok (.iload_n 1, 1) := by decide +kernel
theorem dX1_isTornBy_7 : decode cX1_isTornBy 7 = .ok (.imul, 1) := by decide +kernel
theorem dX1_isTornBy_8 : decode cX1_isTornBy 8 = .ok (.iload_n 2, 1) := by decide +kernel
theorem dX1_isTornBy_9 : decode cX1_isTornBy 9 = .ok (.idiv, 1) := by decide +kernel
theorem dX1_isTornBy_10 : decode cX1_isTornBy 10 = .ok (.aload_n 0, 1) := by decide +kernel
theorem dX1_isTornBy_11 : decode cX1_isTornBy 11 = .ok (.getfield 33, 3) := by decide +kernel
theorem dX1_isTornBy_14 : decode cX1_isTornBy 14 = .ok (.getfield 76, 3) := by decide +kernel
theorem dX1_isTornBy_17 : decode cX1_isTornBy 17 = .ok (.if_icmp .le 7, 3) := by decide +kernel
theorem dX1_isTornBy_20 : decode cX1_isTornBy 20 = .ok (.iconst 1, 1) := by decide +kernel
theorem dX1_isTornBy_21 : decode cX1_isTornBy 21 = .ok (.goto 4, 3) := by decide +kernel
theorem dX1_isTornBy_24 : decode cX1_isTornBy 24 = .ok (.iconst 0, 1) := by decide +kernel
theorem dX1_isTornBy_25 : decode cX1_isTornBy 25 = .ok (.ireturn, 1) := by decide +kernel
theorem dX1_stretchOver_0 : decode cX1_stretchOver 0 = .ok (.iconst 0, 1) := by decide +kernel
theorem dX1_stretchOver_1 : decode cX1_stretchOver 1 = .ok (.istore_n 2, 1) := by decide +kernel
theorem dX1_stretchOver_2 : decode cX1_stretchOver 2 = .ok (.iload_n 2, 1) := by decide +kernel
theorem dX1_stretchOver_3 : decode cX1_stretchOver 3 = .ok (.aload_n 0, 1) := by decide +kernel
theorem dX1_stretchOver_4 : decode cX1_stretchOver 4 = .ok (.getfield 9, 3) := by decide +kernel
theorem dX1_stretchOver_7 : decode cX1_stretchOver 7 = .ok (.arraylength, 1) := by decide +kernel
theorem dX1_stretchOver_8 : decode cX1_stretchOver 8 = .ok (.if_icmp .ge 20, 3) := by decide +kernel
theorem dX1_stretchOver_11 : decode cX1_stretchOver 11 = .ok (.aload_n 0, 1) := by decide +kernel
theorem dX1_stretchOver_12 : decode cX1_stretchOver 12 = .ok (.getfield 9, 3) := by decide +kernel
theorem dX1_stretchOver_15 : decode cX1_stretchOver 15 = .ok (.iload_n 2, 1) := by decide +kernel
theorem dX1_stretchOver_16 : decode cX1_stretchOver 16 = .ok (.aload_n 1, 1) := by decide +kernel
theorem dX1_stretchOver_17 : decode cX1_stretchOver 17 = .ok (.iload_n 2, 1) := by decide +kernel
theorem dX1_stretchOver_18 : decode cX1_stretchOver 18 = .ok (.invokevirtual 64, 3) := by decide +kernel
theorem dX1_stretchOver_21 : decode cX1_stretchOver 21 = .ok (.iastore, 1) := by decide +kernel
theorem dX1_stretchOver_22 : decode cX1_stretchOver 22 = .ok (.iinc 2 1, 3) := by decide +kernel
theorem dX1_stretchOver_25 : decode cX1_stretchOver 25 = .ok (.goto (-23), 3) := by decide +kernel
theorem dX1_stretchOver_28 : decode cX1_stretchOver 28 = .ok (.aload_n 0, 1) := by decide +kernel
theorem dX1_stretchOver_29 : decode cX1_stretchOver 29 = .ok (.aload_n 1, 1) := by decide +kernel
theorem dX1_stretchOver_30 : decode cX1_stretchOver 30 = .ok (.putfield 25, 3) := by decide +kernel
theorem dX1_stretchOver_33 : decode cX1_stretchOver 33 = .ok (.return_, 1) := by decide +kernel
theorem dX1_widthFollowed_0 : decode cX1_widthFollowed 0 = .ok (.aload_n 0, 1) := by decide +kernel
theorem dX1_widthFollowed_1 : decode cX1_widthFollowed 1 = .ok (.getfield 25, 3) := by decide +kernel
theorem dX1_widthFollowed_4 : decode cX1_widthFollowed 4 = .ok (.ifnull 12, 3) := by decide +kernel
theorem dX1_widthFollowed_7 : decode cX1_widthFollowed 7 = .ok (.aload_n 0, 1) := by decide +kernel
theorem dX1_widthFollowed_8 : decode cX1_widthFollowed 8 = .ok (.getfield 25, 3) := by decide +kernel
theorem dX1_widthFollowed_11 : decode cX1_widthFollowed 11 = .ok (.iload_n 1, 1) := by decide +kernel
theorem dX1_widthFollowed_12 : decode cX1_widthFollowed 12 = .ok (.invokevirtual 64, 3) := by decide +kernel
theorem dX1_widthFollowed_15 : decode cX1_widthFollowed 15 = .ok (.ireturn, 1) := by decide +kernel
theorem dX1_widthFollowed_16 : decode cX1_widthFollowed 16 = .ok (.iload_n 1, 1) := by decide +kernel
theorem dX1_widthFollowed_17 : decode cX1_widthFollowed 17 = .ok (.invokestatic 41, 3) := by decide +kernel
theorem dX1_widthFollowed_20 : decode cX1_widthFollowed 20 = .ok (.istore_n 2, 1) := by decide +kernel
theorem dX1_widthFollowed_21 : decode cX1_widthFollowed 21 = .ok (.iconst 0, 1) := by decide +kernel
theorem dX1_widthFollowed_22 : decode cX1_widthFollowed 22 = .ok (.istore_n 3, 1) := by decide +kernel
theorem dX1_widthFollowed_23 : decode cX1_widthFollowed 23 = .ok (.iload_n 3, 1) := by decide +kernel
theorem dX1_widthFollowed_24 : decode cX1_widthFollowed 24 = .ok (.aload_n 0, 1) := by decide +kernel
theorem dX1_widthFollowed_25 : decode cX1_widthFollowed 25 = .ok (.getfield 22, 3) := by decide +kernel
theorem dX1_widthFollowed_28 : decode cX1_widthFollowed 28 = .ok (.if_icmp .ge 24, 3) := by decide +kernel
theorem dX1_widthFollowed_31 : decode cX1_widthFollowed 31 = .ok (.iload_n 3, 1) := by decide +kernel
theorem dX1_widthFollowed_32 : decode cX1_widthFollowed 32 = .ok (.bipush 12, 2) := by decide +kernel
theorem dX1_widthFollowed_34 : decode cX1_widthFollowed 34 = .ok (.if_icmp .ge 18, 3) := by decide +kernel
theorem dX1_widthFollowed_37 : decode cX1_widthFollowed 37 = .ok (.aload_n 0, 1) := by decide +kernel
theorem dX1_widthFollowed_38 : decode cX1_widthFollowed 38 = .ok (.getfield 33, 3) := by decide +kernel
theorem dX1_widthFollowed_41 : decode cX1_widthFollowed 41 = .ok (.iload_n 2, 1) := by decide +kernel
theorem dX1_widthFollowed_42 : decode cX1_widthFollowed 42 = .ok (.invokevirtual 52, 3) := by decide +kernel
theorem dX1_widthFollowed_45 : decode cX1_widthFollowed 45 = .ok (.istore_n 2, 1) := by decide +kernel
theorem dX1_widthFollowed_46 : decode cX1_widthFollowed 46 = .ok (.iinc 3 1, 3) := by decide +kernel
theorem dX1_widthFollowed_49 : decode cX1_widthFollowed 49 = .ok (.goto (-26), 3) := by decide +kernel
theorem dX1_widthFollowed_52 : decode cX1_widthFollowed 52 = .ok (.iload_n 2, 1) := by decide +kernel
theorem dX1_widthFollowed_53 : decode cX1_widthFollowed 53 = .ok (.ireturn, 1) := by decide +kernel
theorem dX2_isAllowedIn_0 : decode cX2_isAllowedIn 0 = .ok (.iload_n 1, 1) := by decide +kernel
theorem dX2_isAllowedIn_1 : decode cX2_isAllowedIn 1 = .ok (.aload_n 0, 1) := by decide +kernel
theorem dX2_isAllowedIn_2 : decode cX2_isAllowedIn 2 = .ok (.getfield 36, 3) := by decide +kernel
theorem dX2_isAllowedIn_5 : decode cX2_isAllowedIn 5 = .ok (.if_icmp .ge 7, 3) := by decide +kernel
theorem dX2_isAllowedIn_8 : decode cX2_isAllowedIn 8 = .ok (.iconst 1, 1) := by decide +kernel
theorem dX2_isAllowedIn_9 : decode cX2_isAllowedIn 9 = .ok (.goto 4, 3) := by decide +kernel
theorem dX2_isAllowedIn_12 : decode cX2_isAllowedIn 12 = .ok (.iconst 0, 1) := by decide +kernel
theorem dX2_isAllowedIn_13 : decode cX2_isAllowedIn 13 = .ok (.ireturn, 1) := by decide +kernel
theorem dX3_shrunkAcross_0 : decode cX3_shrunkAcross 0 = .ok (.iload_n 1, 1) := by decide +kernel
theorem dX3_shrunkAcross_1 : decode cX3_shrunkAcross 1 = .ok (.bipush 100, 2) := by decide +kernel
theorem dX3_shrunkAcross_3 : decode cX3_shrunkAcross 3 = .ok (.aload_n 0, 1) := by decide +kernel
theorem dX3_shrunkAcross_4 : decode cX3_shrunkAcross 4 = .ok (.getfield 39, 3) := by decide +kernel
theorem dX3_shrunkAcross_7 : decode cX3_shrunkAcross 7 = .ok (.isub, 1) := by decide +kernel
theorem dX3_shrunkAcross_8 : decode cX3_shrunkAcross 8 = .ok (.imul, 1) := by decide +kernel
theorem dX3_shrunkAcross_9 : decode cX3_shrunkAcross 9 = .ok (.bipush 100, 2) := by decide +kernel
theorem dX3_shrunkAcross_11 : decode cX3_shrunkAcross 11 = .ok (.idiv, 1) := by decide +kernel
theorem dX3_shrunkAcross_12 : decode cX3_shrunkAcross 12 = .ok (.ireturn, 1) := by decide +kernel
theorem dX3_shrunkAlong_0 : decode cX3_shrunkAlong 0 = .ok (.iload_n 1, 1) := by decide +kernel
theorem dX3_shrunkAlong_1 : decode cX3_shrunkAlong 1 = .ok (.bipush 100, 2) := by decide +kernel
theorem dX3_shrunkAlong_3 : decode cX3_shrunkAlong 3 = .ok (.aload_n 0, 1) := by decide +kernel
theorem dX3_shrunkAlong_4 : decode cX3_shrunkAlong 4 = .ok (.getfield 43, 3) := by decide +kernel
theorem dX3_shrunkAlong_7 : decode cX3_shrunkAlong 7 = .ok (.isub, 1) := by decide +kernel
theorem dX3_shrunkAlong_8 : decode cX3_shrunkAlong 8 = .ok (.imul, 1) := by decide +kernel
theorem dX3_shrunkAlong_9 : decode cX3_shrunkAlong 9 = .ok (.bipush 100, 2) := by decide +kernel
theorem dX3_shrunkAlong_11 : decode cX3_shrunkAlong 11 = .ok (.idiv, 1) := by decide +kernel
theorem dX3_shrunkAlong_12 : decode cX3_shrunkAlong 12 = .ok (.ireturn, 1) := by decide +kernel
theorem dX4_init_0 : decode cX4_init 0 = .ok (.aload_n 0, 1) := by decide +kernel
theorem dX4_init_1 : decode cX4_init 1 = .ok (.invokespecial 1, 3) := by decide +kernel
theorem dX4_init_4 : decode cX4_init 4 = .ok (.aload_n 0, 1) := by decide +kernel
theorem dX4_init_5 : decode cX4_init 5 = .ok (.iconst 0, 1) := by decide +kernel
theorem dX4_init_6 : decode cX4_init 6 = .ok (.putfield 7, 3) := by decide +kernel
theorem dX4_init_9 : decode cX4_init 9 = .ok (.aload_n 0, 1) := by decide +kernel
theorem dX4_init_10 : decode cX4_init 10 = .ok (.iconst 0, 1) := by decide +kernel
theorem dX4_init_11 : decode cX4_init 11 = .ok (.putfield 13, 3) := by decide +kernel
theorem dX4_init_14 : decode cX4_init 14 = .ok (.return_, 1) := by decide +kernel
theorem dX4_breathe_0 : decode cX4_breathe 0 = .ok (.aload_n 0, 1) := by decide +kernel
theorem dX4_breathe_1 : decode cX4_breathe 1 = .ok (.dup, 1) := by decide +kernel
theorem dX4_breathe_2 : decode cX4_breathe 2 = .ok (.getfield 7, 3) := by decide +kernel
theorem dX4_breathe_5 : decode cX4_breathe 5 = .ok (.iload_n 1, 1) := by decide +kernel
theorem dX4_breathe_6 : decode cX4_breathe 6 = .ok (.iadd, 1) := by decide +kernel
theorem dX4_breathe_7 : decode cX4_breathe 7 = .ok (.putfield 7, 3) := by decide +kernel
theorem dX4_breathe_10 : decode cX4_breathe 10 = .ok (.aload_n 0, 1) := by decide +kernel
theorem dX4_breathe_11 : decode cX4_breathe 11 = .ok (.dup, 1) := by decide +kernel
theorem dX4_breathe_12 : decode cX4_breathe 12 = .ok (.getfield 13, 3) := by decide +kernel
theorem dX4_breathe_15 : decode cX4_breathe 15 = .ok (.iload_n 1, 1) := by decide +kernel
theorem dX4_breathe_16 : decode cX4_breathe 16 = .ok (.iadd, 1) := by decide +kernel
theorem dX4_breathe_17 : decode cX4_breathe 17 = .ok (.putfield 13, 3) := by decide +kernel
theorem dX4_breathe_20 : decode cX4_breathe 20 = .ok (.return_, 1) := by decide +kernel
theorem dX5_init_0 : decode cX5_init 0 = .ok (.aload_n 0, 1) := by decide +kernel
theorem dX5_init_1 : decode cX5_init 1 = .ok (.invokespecial 3, 3) := by decide +kernel
theorem dX5_init_4 : decode cX5_init 4 = .ok (.aload_n 0, 1) := by decide +kernel
theorem dX5_init_5 : decode cX5_init 5 = .ok (.bipush 8, 2) := by decide +kernel
theorem dX5_init_7 : decode cX5_init 7 = .ok (.newarray .int, 2) := by decide +kernel
theorem dX5_init_9 : decode cX5_init 9 = .ok (.putfield 9, 3) := by decide +kernel
theorem dX5_init_12 : decode cX5_init 12 = .ok (.return_, 1) := by decide +kernel
theorem dX5_setRadius_0 : decode cX5_setRadius 0 = .ok (.iload_n 1, 1) := by decide +kernel
theorem dX5_setRadius_1 : decode cX5_setRadius 1 = .ok (.ifCond .lt 19, 3) := by decide +kernel
theorem dX5_setRadius_4 : decode cX5_setRadius 4 = .ok (.iload_n 1, 1) := by decide +kernel
theorem dX5_setRadius_5 : decode cX5_setRadius 5 = .ok (.aload_n 0, 1) := by decide +kernel
theorem dX5_setRadius_6 : decode cX5_setRadius 6 = .ok (.getfield 9, 3) := by decide +kernel
theorem dX5_setRadius_9 : decode cX5_setRadius 9 = .ok (.arraylength, 1) := by decide +kernel
theorem dX5_setRadius_10 : decode cX5_setRadius 10 = .ok (.if_icmp .ge 10, 3) := by decide +kernel
theorem dX5_setRadius_13 : decode cX5_setRadius 13 = .ok (.aload_n 0, 1) := by decide +kernel
theorem dX5_setRadius_14 : decode cX5_setRadius 14 = .ok (.getfield 9, 3) := by decide +kernel
theorem dX5_setRadius_17 : decode cX5_setRadius 17 = .ok (.iload_n 1, 1) := by decide +kernel
theorem dX5_setRadius_18 : decode cX5_setRadius 18 = .ok (.iload_n 2, 1) := by decide +kernel
theorem dX5_setRadius_19 : decode cX5_setRadius 19 = .ok (.iastore, 1) := by decide +kernel
theorem dX5_setRadius_20 : decode cX5_setRadius 20 = .ok (.return_, 1) := by decide +kernel
theorem dX5_around_0 : decode cX5_around 0 = .ok (.iconst 0, 1) := by decide +kernel
theorem dX5_around_1 : decode cX5_around 1 = .ok (.istore_n 1, 1) := by decide +kernel
theorem dX5_around_2 : decode cX5_around 2 = .ok (.aload_n 0, 1) := by decide +kernel
theorem dX5_around_3 : decode cX5_around 3 = .ok (.getfield 9, 3) := by decide +kernel
theorem dX5_around_6 : decode cX5_around 6 = .ok (.astore_n 2, 1) := by decide +kernel
theorem dX5_around_7 : decode cX5_around 7 = .ok (.aload_n 2, 1) := by decide +kernel
theorem dX5_around_8 : decode cX5_around 8 = .ok (.arraylength, 1) := by decide +kernel
theorem dX5_around_9 : decode cX5_around 9 = .ok (.istore_n 3, 1) := by decide +kernel
theorem dX5_around_10 : decode cX5_around 10 = .ok (.iconst 0, 1) := by decide +kernel
theorem dX5_around_11 : decode cX5_around 11 = .ok (.istore 4, 2) := by decide +kernel
theorem dX5_around_13 : decode cX5_around 13 = .ok (.iload 4, 2) := by decide +kernel
theorem dX5_around_15 : decode cX5_around 15 = .ok (.iload_n 3, 1) := by decide +kernel
theorem dX5_around_16 : decode cX5_around 16 = .ok (.if_icmp .ge 20, 3) := by decide +kernel
theorem dX5_around_19 : decode cX5_around 19 = .ok (.aload_n 2, 1) := by decide +kernel
theorem dX5_around_20 : decode cX5_around 20 = .ok (.iload 4, 2) := by decide +kernel
theorem dX5_around_22 : decode cX5_around 22 = .ok (.iaload, 1) := by decide +kernel
theorem dX5_around_23 : decode cX5_around 23 = .ok (.istore 5, 2) := by decide +kernel
theorem dX5_around_25 : decode cX5_around 25 = .ok (.iload_n 1, 1) := by decide +kernel
theorem dX5_around_26 : decode cX5_around 26 = .ok (.iload 5, 2) := by decide +kernel
theorem dX5_around_28 : decode cX5_around 28 = .ok (.iadd, 1) := by decide +kernel
theorem dX5_around_29 : decode cX5_around 29 = .ok (.istore_n 1, 1) := by decide +kernel
theorem dX5_around_30 : decode cX5_around 30 = .ok (.iinc 4 1, 3) := by decide +kernel
theorem dX5_around_33 : decode cX5_around 33 = .ok (.goto (-20), 3) := by decide +kernel
theorem dX5_around_36 : decode cX5_around 36 = .ok (.iload_n 1, 1) := by decide +kernel
theorem dX5_around_37 : decode cX5_around 37 = .ok (.sipush 785, 3) := by decide +kernel
theorem dX5_around_40 : decode cX5_around 40 = .ok (.imul, 1) := by decide +kernel
theorem dX5_around_41 : decode cX5_around 41 = .ok (.sipush 1000, 3) := by decide +kernel
theorem dX5_around_44 : decode cX5_around 44 = .ok (.idiv, 1) := by decide +kernel
theorem dX5_around_45 : decode cX5_around 45 = .ok (.ireturn, 1) := by decide +kernel
theorem dX5_sizeIn_0 : decode cX5_sizeIn 0 = .ok (.aload_n 0, 1) := by decide +kernel
theorem dX5_sizeIn_1 : decode cX5_sizeIn 1 = .ok (.invokevirtual 15, 3) := by decide +kernel
theorem dX5_sizeIn_4 : decode cX5_sizeIn 4 = .ok (.i2f, 1) := by decide +kernel
theorem dX5_sizeIn_5 : decode cX5_sizeIn 5 = .ok (.fstore_n 2, 1) := by decide +kernel
theorem dX5_sizeIn_6 : decode cX5_sizeIn 6 = .ok (.iload_n 1, 1) := by decide +kernel
theorem dX5_sizeIn_7 : decode cX5_sizeIn 7 = .ok (.tableswitch 43 0 2 #[25, 30, 35], 25) := by decide +kernel
theorem dX5_sizeIn_32 : decode cX5_sizeIn 32 = .ok (.fload_n 2, 1) := by decide +kernel
theorem dX5_sizeIn_33 : decode cX5_sizeIn 33 = .ok (.ldc 19, 2) := by decide +kernel
theorem dX5_sizeIn_35 : decode cX5_sizeIn 35 = .ok (.fdiv, 1) := by decide +kernel
theorem dX5_sizeIn_36 : decode cX5_sizeIn 36 = .ok (.freturn, 1) := by decide +kernel
theorem dX5_sizeIn_37 : decode cX5_sizeIn 37 = .ok (.fload_n 2, 1) := by decide +kernel
theorem dX5_sizeIn_38 : decode cX5_sizeIn 38 = .ok (.ldc 20, 2) := by decide +kernel
theorem dX5_sizeIn_40 : decode cX5_sizeIn 40 = .ok (.fdiv, 1) := by decide +kernel
theorem dX5_sizeIn_41 : decode cX5_sizeIn 41 = .ok (.freturn, 1) := by decide +kernel
theorem dX5_sizeIn_42 : decode cX5_sizeIn 42 = .ok (.fload_n 2, 1) := by decide +kernel
theorem dX5_sizeIn_43 : decode cX5_sizeIn 43 = .ok (.ldc 20, 2) := by decide +kernel
theorem dX5_sizeIn_45 : decode cX5_sizeIn 45 = .ok (.fdiv, 1) := by decide +kernel
theorem dX5_sizeIn_46 : decode cX5_sizeIn 46 = .ok (.ldc 21, 2) := by decide +kernel
theorem dX5_sizeIn_48 : decode cX5_sizeIn 48 = .ok (.fadd, 1) := by decide +kernel
theorem dX5_sizeIn_49 : decode cX5_sizeIn 49 = .ok (.freturn, 1) := by decide +kernel
theorem dX5_sizeIn_50 : decode cX5_sizeIn 50 = .ok (.fload_n 2, 1) := by decide +kernel
theorem dX5_sizeIn_51 : decode cX5_sizeIn 51 = .ok (.ldc 22, 2) := by decide +kernel
theorem dX5_sizeIn_53 : decode cX5_sizeIn 53 = .ok (.fdiv, 1) := by decide +kernel
theorem dX5_sizeIn_54 : decode cX5_sizeIn 54 = .ok (.freturn, 1) := by decide +kernel
theorem dX6_init_0 : decode cX6_init 0 = .ok (.aload_n 0, 1) := by decide +kernel
theorem dX6_init_1 : decode cX6_init 1 = .ok (.invokespecial 1, 3) := by decide +kernel
theorem dX6_init_4 : decode cX6_init 4 = .ok (.aload_n 0, 1) := by decide +kernel
theorem dX6_init_5 : decode cX6_init 5 = .ok (.aload_n 1, 1) := by decide +kernel
theorem dX6_init_6 : decode cX6_init 6 = .ok (.putfield 7, 3) := by decide +kernel
theorem dX6_init_9 : decode cX6_init 9 = .ok (.aload_n 0, 1) := by decide +kernel
theorem dX6_init_10 : decode cX6_init 10 = .ok (.iload_n 2, 1) := by decide +kernel
theorem dX6_init_11 : decode cX6_init 11 = .ok (.putfield 13, 3) := by decide +kernel
theorem dX6_init_14 : decode cX6_init 14 = .ok (.return_, 1) := by decide +kernel
theorem dX7_gainOf_0 : decode cX7_gainOf 0 = .ok (.aload_n 0, 1) := by decide +kernel
theorem dX7_gainOf_1 : decode cX7_gainOf 1 = .ok (.getfield 45, 3) := by decide +kernel
theorem dX7_gainOf_4 : decode cX7_gainOf 4 = .ok (.ifCond .eq 18, 3) := by decide +kernel
theorem dX7_gainOf_7 : decode cX7_gainOf 7 = .ok (.iconst 0, 1) := by decide +kernel
theorem dX7_gainOf_8 : decode cX7_gainOf 8 = .ok (.aload_n 0, 1) := by decide +kernel
theorem dX7_gainOf_9 : decode cX7_gainOf 9 = .ok (.getfield 41, 3) := by decide +kernel
theorem dX7_gainOf_12 : decode cX7_gainOf 12 = .ok (.iload_n 1, 1) := by decide +kernel
theorem dX7_gainOf_13 : decode cX7_gainOf 13 = .ok (.iconst 3, 1) := by decide +kernel
theorem dX7_gainOf_14 : decode cX7_gainOf 14 = .ok (.idiv, 1) := by decide +kernel
theorem dX7_gainOf_15 : decode cX7_gainOf 15 = .ok (.isub, 1) := by decide +kernel
theorem dX7_gainOf_16 : decode cX7_gainOf 16 = .ok (.invokestatic 49, 3) := by decide +kernel
theorem dX7_gainOf_19 : decode cX7_gainOf 19 = .ok (.goto 7, 3) := by decide +kernel
theorem dX7_gainOf_22 : decode cX7_gainOf 22 = .ok (.aload_n 0, 1) := by decide +kernel
theorem dX7_gainOf_23 : decode cX7_gainOf 23 = .ok (.getfield 41, 3) := by decide +kernel
theorem dX7_gainOf_26 : decode cX7_gainOf 26 = .ok (.ireturn, 1) := by decide +kernel
theorem dX7_stitchesRowByRow_0 : decode cX7_stitchesRowByRow 0 = .ok (.bipush 6, 2) := by decide +kernel
theorem dX7_stitchesRowByRow_2 : decode cX7_stitchesRowByRow 2 = .ok (.istore_n 2, 1) := by decide +kernel
theorem dX7_stitchesRowByRow_3 : decode cX7_stitchesRowByRow 3 = .ok (.bipush 6, 2) := by decide +kernel
theorem dX7_stitchesRowByRow_5 : decode cX7_stitchesRowByRow 5 = .ok (.istore_n 3, 1) := by decide +kernel
theorem dX7_stitchesRowByRow_6 : decode cX7_stitchesRowByRow 6 = .ok (.iconst 2, 1) := by decide +kernel
theorem dX7_stitchesRowByRow_7 : decode cX7_stitchesRowByRow 7 = .ok (.istore 4, 2) := by decide +kernel
theorem dX7_stitchesRowByRow_9 : decode cX7_stitchesRowByRow 9 = .ok (.iload 4, 2) := by decide +kernel
theorem dX7_stitchesRowByRow_11 : decode cX7_stitchesRowByRow 11 = .ok (.iload_n 1, 1) := by decide +kernel
theorem dX7_stitchesRowByRow_12 : decode cX7_stitchesRowByRow 12 = .ok (.if_icmp .gt 22, 3) := by decide +kernel
theorem dX7_stitchesRowByRow_15 : decode cX7_stitchesRowByRow 15 = .ok (.iload_n 2, 1) := by decide +kernel
theorem dX7_stitchesRowByRow_16 : decode cX7_stitchesRowByRow 16 = .ok (.aload_n 0, 1) := by decide +kernel
theorem dX7_stitchesRowByRow_17 : decode cX7_stitchesRowByRow 17 = .ok (.iload 4, 2) := by decide +kernel
theorem dX7_stitchesRowByRow_19 : decode cX7_stitchesRowByRow 19 = .ok (.invokevirtual 55, 3) := by decide +kernel
theorem dX7_stitchesRowByRow_22 : decode cX7_stitchesRowByRow 22 = .ok (.iadd, 1) := by decide +kernel
theorem dX7_stitchesRowByRow_23 : decode cX7_stitchesRowByRow 23 = .ok (.istore_n 2, 1) := by decide +kernel
theorem dX7_stitchesRowByRow_24 : decode cX7_stitchesRowByRow 24 = .ok (.iload_n 3, 1) := by decide +kernel
theorem dX7_stitchesRowByRow_25 : decode cX7_stitchesRowByRow 25 = .ok (.iload_n 2, 1) := by decide +kernel
theorem dX7_stitchesRowByRow_26 : decode cX7_stitchesRowByRow 26 = .ok (.iadd, 1) := by decide +kernel
theorem dX7_stitchesRowByRow_27 : decode cX7_stitchesRowByRow 27 = .ok (.istore_n 3, 1) := by decide +kernel
theorem dX7_stitchesRowByRow_28 : decode cX7_stitchesRowByRow 28 = .ok (.iinc 4 1, 3) := by decide +kernel
theorem dX7_stitchesRowByRow_31 : decode cX7_stitchesRowByRow 31 = .ok (.goto (-22), 3) := by decide +kernel
theorem dX7_stitchesRowByRow_34 : decode cX7_stitchesRowByRow 34 = .ok (.iload_n 3, 1) := by decide +kernel
theorem dX7_stitchesRowByRow_35 : decode cX7_stitchesRowByRow 35 = .ok (.ireturn, 1) := by decide +kernel
theorem dX7_stitchesAtOnce_0 : decode cX7_stitchesAtOnce 0 = .ok (.aload_n 0, 1) := by decide +kernel
theorem dX7_stitchesAtOnce_1 : decode cX7_stitchesAtOnce 1 = .ok (.getfield 45, 3) := by decide +kernel
theorem dX7_stitchesAtOnce_4 : decode cX7_stitchesAtOnce 4 = .ok (.ifCond .ne 19, 3) := by decide +kernel
theorem dX7_stitchesAtOnce_7 : decode cX7_stitchesAtOnce 7 = .ok (.bipush 6, 2) := by decide +kernel
theorem dX7_stitchesAtOnce_9 : decode cX7_stitchesAtOnce 9 = .ok (.iload_n 1, 1) := by decide +kernel
theorem dX7_stitchesAtOnce_10 : decode cX7_stitchesAtOnce 10 = .ok (.imul, 1) := by decide +kernel
theorem dX7_stitchesAtOnce_11 : decode cX7_stitchesAtOnce 11 = .ok (.aload_n 0, 1) := by decide +kernel
theorem dX7_stitchesAtOnce_12 : decode cX7_stitchesAtOnce 12 = .ok (.getfield 41, 3) := by decide +kernel
theorem dX7_stitchesAtOnce_15 : decode cX7_stitchesAtOnce 15 = .ok (.iload_n 1, 1) := by decide +kernel
theorem dX7_stitchesAtOnce_16 : decode cX7_stitchesAtOnce 16 = .ok (.iload_n 1, 1) := by decide +kernel
theorem dX7_stitchesAtOnce_17 : decode cX7_stitchesAtOnce 17 = .ok (.invokestatic 59, 3) := by decide +kernel
theorem dX7_stitchesAtOnce_20 : decode cX7_stitchesAtOnce 20 = .ok (.imul, 1) := by decide +kernel
theorem dX7_stitchesAtOnce_21 : decode cX7_stitchesAtOnce 21 = .ok (.iadd, 1) := by decide +kernel
theorem dX7_stitchesAtOnce_22 : decode cX7_stitchesAtOnce 22 = .ok (.ireturn, 1) := by decide +kernel
theorem dX7_stitchesAtOnce_23 : decode cX7_stitchesAtOnce 23 = .ok (.bipush 6, 2) := by decide +kernel
theorem dX7_stitchesAtOnce_25 : decode cX7_stitchesAtOnce 25 = .ok (.iload_n 1, 1) := by decide +kernel
theorem dX7_stitchesAtOnce_26 : decode cX7_stitchesAtOnce 26 = .ok (.imul, 1) := by decide +kernel
theorem dX7_stitchesAtOnce_27 : decode cX7_stitchesAtOnce 27 = .ok (.istore_n 2, 1) := by decide +kernel
theorem dX7_stitchesAtOnce_28 : decode cX7_stitchesAtOnce 28 = .ok (.iconst 1, 1) := by decide +kernel
theorem dX7_stitchesAtOnce_29 : decode cX7_stitchesAtOnce 29 = .ok (.istore_n 3, 1) := by decide +kernel
theorem dX7_stitchesAtOnce_30 : decode cX7_stitchesAtOnce 30 = .ok (.iload_n 3, 1) := by decide +kernel
theorem dX7_stitchesAtOnce_31 : decode cX7_stitchesAtOnce 31 = .ok (.aload_n 0, 1) := by decide +kernel
theorem dX7_stitchesAtOnce_32 : decode cX7_stitchesAtOnce 32 = .ok (.getfield 41, 3) := by decide +kernel
theorem dX7_stitchesAtOnce_35 : decode cX7_stitchesAtOnce 35 = .ok (.if_icmp .gt 25, 3) := by decide +kernel
theorem dX7_stitchesAtOnce_38 : decode cX7_stitchesAtOnce 38 = .ok (.iload_n 2, 1) := by decide +kernel
theorem dX7_stitchesAtOnce_39 : decode cX7_stitchesAtOnce 39 = .ok (.iload_n 1, 1) := by decide +kernel
theorem dX7_stitchesAtOnce_40 : decode cX7_stitchesAtOnce 40 = .ok (.iload_n 1, 1) := by decide +kernel
theorem dX7_stitchesAtOnce_41 : decode cX7_stitchesAtOnce 41 = .ok (.iconst 3, 1) := by decide +kernel
theorem dX7_stitchesAtOnce_42 : decode cX7_stitchesAtOnce 42 = .ok (.iload_n 3, 1) := by decide +kernel
theorem dX7_stitchesAtOnce_43 : decode cX7_stitchesAtOnce 43 = .ok (.imul, 1) := by decide +kernel
theorem dX7_stitchesAtOnce_44 : decode cX7_stitchesAtOnce 44 = .ok (.iconst 1, 1) := by decide +kernel
theorem dX7_stitchesAtOnce_45 : decode cX7_stitchesAtOnce 45 = .ok (.isub, 1) := by decide +kernel
theorem dX7_stitchesAtOnce_46 : decode cX7_stitchesAtOnce 46 = .ok (.invokestatic 62, 3) := by decide +kernel
theorem dX7_stitchesAtOnce_49 : decode cX7_stitchesAtOnce 49 = .ok (.invokestatic 59, 3) := by decide +kernel
theorem dX7_stitchesAtOnce_52 : decode cX7_stitchesAtOnce 52 = .ok (.iadd, 1) := by decide +kernel
theorem dX7_stitchesAtOnce_53 : decode cX7_stitchesAtOnce 53 = .ok (.istore_n 2, 1) := by decide +kernel
theorem dX7_stitchesAtOnce_54 : decode cX7_stitchesAtOnce 54 = .ok (.iinc 3 1, 3) := by decide +kernel
theorem dX7_stitchesAtOnce_57 : decode cX7_stitchesAtOnce 57 = .ok (.goto (-27), 3) := by decide +kernel
theorem dX7_stitchesAtOnce_60 : decode cX7_stitchesAtOnce 60 = .ok (.iload_n 2, 1) := by decide +kernel
theorem dX7_stitchesAtOnce_61 : decode cX7_stitchesAtOnce 61 = .ok (.ireturn, 1) := by decide +kernel
theorem dX7_addedByOneEach_0 : decode cX7_addedByOneEach 0 = .ok (.iload_n 1, 1) := by decide +kernel
theorem dX7_addedByOneEach_1 : decode cX7_addedByOneEach 1 = .ok (.iconst 1, 1) := by decide +kernel
theorem dX7_addedByOneEach_2 : decode cX7_addedByOneEach 2 = .ok (.isub, 1) := by decide +kernel
theorem dX7_addedByOneEach_3 : decode cX7_addedByOneEach 3 = .ok (.iconst 2, 1) := by decide +kernel
theorem dX7_addedByOneEach_4 : decode cX7_addedByOneEach 4 = .ok (.iload_n 0, 1) := by decide +kernel
theorem dX7_addedByOneEach_5 : decode cX7_addedByOneEach 5 = .ok (.imul, 1) := by decide +kernel
theorem dX7_addedByOneEach_6 : decode cX7_addedByOneEach 6 = .ok (.iload_n 1, 1) := by decide +kernel
theorem dX7_addedByOneEach_7 : decode cX7_addedByOneEach 7 = .ok (.isub, 1) := by decide +kernel
theorem dX7_addedByOneEach_8 : decode cX7_addedByOneEach 8 = .ok (.imul, 1) := by decide +kernel
theorem dX7_addedByOneEach_9 : decode cX7_addedByOneEach 9 = .ok (.iconst 2, 1) := by decide +kernel
theorem dX7_addedByOneEach_10 : decode cX7_addedByOneEach 10 = .ok (.idiv, 1) := by decide +kernel
theorem dX7_addedByOneEach_11 : decode cX7_addedByOneEach 11 = .ok (.ireturn, 1) := by decide +kernel
theorem dX7_rowsToClose_0 : decode cX7_rowsToClose 0 = .ok (.bipush 6, 2) := by decide +kernel
theorem dX7_rowsToClose_2 : decode cX7_rowsToClose 2 = .ok (.istore_n 2, 1) := by decide +kernel
theorem dX7_rowsToClose_3 : decode cX7_rowsToClose 3 = .ok (.iconst 1, 1) := by decide +kernel
theorem dX7_rowsToClose_4 : decode cX7_rowsToClose 4 = .ok (.istore_n 3, 1) := by decide +kernel
theorem dX7_rowsToClose_5 : decode cX7_rowsToClose 5 = .ok (.iload_n 3, 1) := by decide +kernel
theorem dX7_rowsToClose_6 : decode cX7_rowsToClose 6 = .ok (.sipush 1000, 3) := by decide +kernel
theorem dX7_rowsToClose_9 : decode cX7_rowsToClose 9 = .ok (.if_icmp .gt 26, 3) := by decide +kernel
theorem dX7_rowsToClose_12 : decode cX7_rowsToClose 12 = .ok (.iload_n 2, 1) := by decide +kernel
theorem dX7_rowsToClose_13 : decode cX7_rowsToClose 13 = .ok (.iload_n 1, 1) := by decide +kernel
theorem dX7_rowsToClose_14 : decode cX7_rowsToClose 14 = .ok (.if_icmp .lt 5, 3) := by decide +kernel
theorem dX7_rowsToClose_17 : decode cX7_rowsToClose 17 = .ok (.iload_n 3, 1) := by decide +kernel
theorem dX7_rowsToClose_18 : decode cX7_rowsToClose 18 = .ok (.ireturn, 1) := by decide +kernel
theorem dX7_rowsToClose_19 : decode cX7_rowsToClose 19 = .ok (.iload_n 2, 1) := by decide +kernel
theorem dX7_rowsToClose_20 : decode cX7_rowsToClose 20 = .ok (.aload_n 0, 1) := by decide +kernel
theorem dX7_rowsToClose_21 : decode cX7_rowsToClose 21 = .ok (.iload_n 3, 1) := by decide +kernel
theorem dX7_rowsToClose_22 : decode cX7_rowsToClose 22 = .ok (.iconst 1, 1) := by decide +kernel
theorem dX7_rowsToClose_23 : decode cX7_rowsToClose 23 = .ok (.iadd, 1) := by decide +kernel
theorem dX7_rowsToClose_24 : decode cX7_rowsToClose 24 = .ok (.invokevirtual 55, 3) := by decide +kernel
theorem dX7_rowsToClose_27 : decode cX7_rowsToClose 27 = .ok (.iadd, 1) := by decide +kernel
theorem dX7_rowsToClose_28 : decode cX7_rowsToClose 28 = .ok (.istore_n 2, 1) := by decide +kernel
theorem dX7_rowsToClose_29 : decode cX7_rowsToClose 29 = .ok (.iinc 3 1, 3) := by decide +kernel
theorem dX7_rowsToClose_32 : decode cX7_rowsToClose 32 = .ok (.goto (-27), 3) := by decide +kernel
theorem dX7_rowsToClose_35 : decode cX7_rowsToClose 35 = .ok (.iconst (-1), 1) := by decide +kernel
theorem dX7_rowsToClose_36 : decode cX7_rowsToClose 36 = .ok (.ireturn, 1) := by decide +kernel
theorem dX8_init_0 : decode cX8_init 0 = .ok (.aload_n 0, 1) := by decide +kernel
theorem dX8_init_1 : decode cX8_init 1 = .ok (.invokespecial 1, 3) := by decide +kernel
theorem dX8_init_4 : decode cX8_init 4 = .ok (.aload_n 0, 1) := by decide +kernel
theorem dX8_init_5 : decode cX8_init 5 = .ok (.new 7, 3) := by decide +kernel
theorem dX8_init_8 : decode cX8_init 8 = .ok (.dup, 1) := by decide +kernel
theorem dX8_init_9 : decode cX8_init 9 = .ok (.invokespecial 9, 3) := by decide +kernel
theorem dX8_init_12 : decode cX8_init 12 = .ok (.putfield 10, 3) := by decide +kernel
theorem dX8_init_15 : decode cX8_init 15 = .ok (.aload_n 0, 1) := by decide +kernel
theorem dX8_init_16 : decode cX8_init 16 = .ok (.bipush 10, 2) := by decide +kernel
theorem dX8_init_18 : decode cX8_init 18 = .ok (.anewarray 16, 3) := by decide +kernel
theorem dX8_init_21 : decode cX8_init 21 = .ok (.putfield 18, 3) := by decide +kernel
theorem dX8_init_24 : decode cX8_init 24 = .ok (.aload_n 0, 1) := by decide +kernel
theorem dX8_init_25 : decode cX8_init 25 = .ok (.bipush 12, 2) := by decide +kernel
theorem dX8_init_27 : decode cX8_init 27 = .ok (.anewarray 22, 3) := by decide +kernel
theorem dX8_init_30 : decode cX8_init 30 = .ok (.putfield 24, 3) := by decide +kernel
theorem dX8_init_33 : decode cX8_init 33 = .ok (.aload_n 0, 1) := by decide +kernel
theorem dX8_init_34 : decode cX8_init 34 = .ok (.bipush 6, 2) := by decide +kernel
theorem dX8_init_36 : decode cX8_init 36 = .ok (.anewarray 28, 3) := by decide +kernel
theorem dX8_init_39 : decode cX8_init 39 = .ok (.putfield 30, 3) := by decide +kernel
theorem dX8_init_42 : decode cX8_init 42 = .ok (.aload_n 0, 1) := by decide +kernel
theorem dX8_init_43 : decode cX8_init 43 = .ok (.bipush 8, 2) := by decide +kernel
theorem dX8_init_45 : decode cX8_init 45 = .ok (.anewarray 34, 3) := by decide +kernel
theorem dX8_init_48 : decode cX8_init 48 = .ok (.putfield 36, 3) := by decide +kernel
theorem dX8_init_51 : decode cX8_init 51 = .ok (.aload_n 0, 1) := by decide +kernel
theorem dX8_init_52 : decode cX8_init 52 = .ok (.new 40, 3) := by decide +kernel
theorem dX8_init_55 : decode cX8_init 55 = .ok (.dup, 1) := by decide +kernel
theorem dX8_init_56 : decode cX8_init 56 = .ok (.invokespecial 42, 3) := by decide +kernel
theorem dX8_init_59 : decode cX8_init 59 = .ok (.putfield 43, 3) := by decide +kernel
theorem dX8_init_62 : decode cX8_init 62 = .ok (.aload_n 0, 1) := by decide +kernel
theorem dX8_init_63 : decode cX8_init 63 = .ok (.iconst 0, 1) := by decide +kernel
theorem dX8_init_64 : decode cX8_init 64 = .ok (.putfield 47, 3) := by decide +kernel
theorem dX8_init_67 : decode cX8_init 67 = .ok (.aload_n 0, 1) := by decide +kernel
theorem dX8_init_68 : decode cX8_init 68 = .ok (.iconst 0, 1) := by decide +kernel
theorem dX8_init_69 : decode cX8_init 69 = .ok (.putfield 51, 3) := by decide +kernel
theorem dX8_init_72 : decode cX8_init 72 = .ok (.aload_n 0, 1) := by decide +kernel
theorem dX8_init_73 : decode cX8_init 73 = .ok (.iconst 0, 1) := by decide +kernel
theorem dX8_init_74 : decode cX8_init 74 = .ok (.putfield 54, 3) := by decide +kernel
theorem dX8_init_77 : decode cX8_init 77 = .ok (.aload_n 0, 1) := by decide +kernel
theorem dX8_init_78 : decode cX8_init 78 = .ok (.iconst 0, 1) := by decide +kernel
theorem dX8_init_79 : decode cX8_init 79 = .ok (.putfield 57, 3) := by decide +kernel
theorem dX8_init_82 : decode cX8_init 82 = .ok (.aload_n 0, 1) := by decide +kernel
theorem dX8_init_83 : decode cX8_init 83 = .ok (.iconst 0, 1) := by decide +kernel
theorem dX8_init_84 : decode cX8_init 84 = .ok (.putfield 60, 3) := by decide +kernel
theorem dX8_init_87 : decode cX8_init 87 = .ok (.return_, 1) := by decide +kernel
theorem dX8_letter_0 : decode cX8_letter 0 = .ok (.iload_n 1, 1) := by decide +kernel
theorem dX8_letter_1 : decode cX8_letter 1 = .ok (.bipush 97, 2) := by decide +kernel
theorem dX8_letter_3 : decode cX8_letter 3 = .ok (.bipush 122, 2) := by decide +kernel
theorem dX8_letter_5 : decode cX8_letter 5 = .ok (.invokestatic 63, 3) := by decide +kernel
theorem dX8_letter_8 : decode cX8_letter 8 = .ok (.aload_n 0, 1) := by decide +kernel
theorem dX8_letter_9 : decode cX8_letter 9 = .ok (.getfield 10, 3) := by decide +kernel
theorem dX8_letter_12 : decode cX8_letter 12 = .ok (.invokevirtual 67, 3) := by decide +kernel
theorem dX8_letter_15 : decode cX8_letter 15 = .ok (.bipush 7, 2) := by decide +kernel
theorem dX8_letter_17 : decode cX8_letter 17 = .ok (.invokestatic 71, 3) := by decide +kernel
theorem dX8_letter_20 : decode cX8_letter 20 = .ok (.aload_n 0, 1) := by decide +kernel
theorem dX8_letter_21 : decode cX8_letter 21 = .ok (.getfield 10, 3) := by decide +kernel
theorem dX8_letter_24 : decode cX8_letter 24 = .ok (.iload_n 1, 1) := by decide +kernel
theorem dX8_letter_25 : decode cX8_letter 25 = .ok (.invokevirtual 75, 3) := by decide +kernel
theorem dX8_letter_28 : decode cX8_letter 28 = .ok (.pop, 1) := by decide +kernel
theorem dX8_letter_29 : decode cX8_letter 29 = .ok (.aload_n 0, 1) := by decide +kernel
theorem dX8_letter_30 : decode cX8_letter 30 = .ok (.getfield 10, 3) := by decide +kernel
theorem dX8_letter_33 : decode cX8_letter 33 = .ok (.invokevirtual 67, 3) := by decide +kernel
theorem dX8_letter_36 : decode cX8_letter 36 = .ok (.ireturn, 1) := by decide +kernel
theorem dX8_lot_0 : decode cX8_lot 0 = .ok (.iload_n 1, 1) := by decide +kernel
theorem dX8_lot_1 : decode cX8_lot 1 = .ok (.iconst 1, 1) := by decide +kernel
theorem dX8_lot_2 : decode cX8_lot 2 = .ok (.sipush 5000, 3) := by decide +kernel
theorem dX8_lot_5 : decode cX8_lot 5 = .ok (.invokestatic 63, 3) := by decide +kernel
theorem dX8_lot_8 : decode cX8_lot 8 = .ok (.aload_n 0, 1) := by decide +kernel
theorem dX8_lot_9 : decode cX8_lot 9 = .ok (.getfield 47, 3) := by decide +kernel
theorem dX8_lot_12 : decode cX8_lot 12 = .ok (.aload_n 0, 1) := by decide +kernel
theorem dX8_lot_13 : decode cX8_lot 13 = .ok (.getfield 18, 3) := by decide +kernel
theorem dX8_lot_16 : decode cX8_lot 16 = .ok (.arraylength, 1) := by decide +kernel
theorem dX8_lot_17 : decode cX8_lot 17 = .ok (.invokestatic 71, 3) := by decide +kernel
theorem dX8_lot_20 : decode cX8_lot 20 = .ok (.aload_n 0, 1) := by decide +kernel
theorem dX8_lot_21 : decode cX8_lot 21 = .ok (.invokevirtual 79, 3) := by decide +kernel
theorem dX8_lot_24 : decode cX8_lot 24 = .ok (.astore_n 2, 1) := by decide +kernel
theorem dX8_lot_25 : decode cX8_lot 25 = .ok (.aload_n 0, 1) := by decide +kernel
theorem dX8_lot_26 : decode cX8_lot 26 = .ok (.invokevirtual 83, 3) := by decide +kernel
theorem dX8_lot_29 : decode cX8_lot 29 = .ok (.aload_n 2, 1) := by decide +kernel
theorem dX8_lot_30 : decode cX8_lot 30 = .ok (.ifnonnull 5, 3) := by decide +kernel
theorem dX8_lot_33 : decode cX8_lot 33 = .ok (.iconst (-1), 1) := by decide +kernel
theorem dX8_lot_34 : decode cX8_lot 34 = .ok (.ireturn, 1) := by decide +kernel
theorem dX8_lot_35 : decode cX8_lot 35 = .ok (.aload_n 0, 1) := by decide +kernel
theorem dX8_lot_36 : decode cX8_lot 36 = .ok (.getfield 18, 3) := by decide +kernel
theorem dX8_lot_39 : decode cX8_lot 39 = .ok (.aload_n 0, 1) := by decide +kernel
theorem dX8_lot_40 : decode cX8_lot 40 = .ok (.getfield 47, 3) := by decide +kernel
theorem dX8_lot_43 : decode cX8_lot 43 = .ok (.new 16, 3) := by decide +kernel
theorem dX8_lot_46 : decode cX8_lot 46 = .ok (.dup, 1) := by decide +kernel
theorem dX8_lot_47 : decode cX8_lot 47 = .ok (.aload_n 2, 1) := by decide +kernel
theorem dX8_lot_48 : decode cX8_lot 48 = .ok (.iload_n 1, 1) := by decide +kernel
theorem dX8_lot_49 : decode cX8_lot 49 = .ok (.invokespecial 86, 3) := by decide +kernel
theorem dX8_lot_52 : decode cX8_lot 52 = .ok (.aastore, 1) := by decide +kernel
theorem dX8_lot_53 : decode cX8_lot 53 = .ok (.aload_n 0, 1) := by decide +kernel
theorem dX8_lot_54 : decode cX8_lot 54 = .ok (.dup, 1) := by decide +kernel
theorem dX8_lot_55 : decode cX8_lot 55 = .ok (.getfield 47, 3) := by decide +kernel
theorem dX8_lot_58 : decode cX8_lot 58 = .ok (.iconst 1, 1) := by decide +kernel
theorem dX8_lot_59 : decode cX8_lot 59 = .ok (.iadd, 1) := by decide +kernel
theorem dX8_lot_60 : decode cX8_lot 60 = .ok (.putfield 47, 3) := by decide +kernel
theorem dX8_lot_63 : decode cX8_lot 63 = .ok (.aload_n 0, 1) := by decide +kernel
theorem dX8_lot_64 : decode cX8_lot 64 = .ok (.getfield 47, 3) := by decide +kernel
theorem dX8_lot_67 : decode cX8_lot 67 = .ok (.iconst 1, 1) := by decide +kernel
theorem dX8_lot_68 : decode cX8_lot 68 = .ok (.isub, 1) := by decide +kernel
theorem dX8_lot_69 : decode cX8_lot 69 = .ok (.ireturn, 1) := by decide +kernel
theorem dX8_cone_0 : decode cX8_cone 0 = .ok (.aload_n 0, 1) := by decide +kernel
theorem dX8_cone_1 : decode cX8_cone 1 = .ok (.iload_n 1, 1) := by decide +kernel
theorem dX8_cone_2 : decode cX8_cone 2 = .ok (.invokevirtual 89, 3) := by decide +kernel
theorem dX8_cone_5 : decode cX8_cone 5 = .ok (.astore 4, 2) := by decide +kernel
theorem dX8_cone_7 : decode cX8_cone 7 = .ok (.iload_n 2, 1) := by decide +kernel
theorem dX8_cone_8 : decode cX8_cone 8 = .ok (.bipush 10, 2) := by decide +kernel
theorem dX8_cone_10 : decode cX8_cone 10 = .ok (.sipush 500, 3) := by decide +kernel
theorem dX8_cone_13 : decode cX8_cone 13 = .ok (.invokestatic 63, 3) := by decide +kernel
theorem dX8_cone_16 : decode cX8_cone 16 = .ok (.iload_n 3, 1) := by decide +kernel
theorem dX8_cone_17 : decode cX8_cone 17 = .ok (.iconst 0, 1) := by decide +kernel
theorem dX8_cone_18 : decode cX8_cone 18 = .ok (.iconst 5, 1) := by decide +kernel
theorem dX8_cone_19 : decode cX8_cone 19 = .ok (.invokestatic 63, 3) := by decide +kernel
theorem dX8_cone_22 : decode cX8_cone 22 = .ok (.aload_n 0, 1) := by decide +kernel
theorem dX8_cone_23 : decode cX8_cone 23 = .ok (.getfield 51, 3) := by decide +kernel
theorem dX8_cone_26 : decode cX8_cone 26 = .ok (.aload_n 0, 1) := by decide +kernel
theorem dX8_cone_27 : decode cX8_cone 27 = .ok (.getfield 24, 3) := by decide +kernel
theorem dX8_cone_30 : decode cX8_cone 30 = .ok (.arraylength, 1) := by decide +kernel
theorem dX8_cone_31 : decode cX8_cone 31 = .ok (.invokestatic 71, 3) := by decide +kernel
theorem dX8_cone_34 : decode cX8_cone 34 = .ok (.aload 4, 2) := by decide +kernel
theorem dX8_cone_36 : decode cX8_cone 36 = .ok (.getfield 93, 3) := by decide +kernel
theorem dX8_cone_39 : decode cX8_cone 39 = .ok (.iload_n 2, 1) := by decide +kernel
theorem dX8_cone_40 : decode cX8_cone 40 = .ok (.if_icmp .ge 13, 3) := by decide +kernel
theorem dX8_cone_43 : decode cX8_cone 43 = .ok (.new 96, 3) := by decide +kernel
theorem dX8_cone_46 : decode cX8_cone 46 = .ok (.dup, 1) := by decide +kernel
theorem dX8_cone_47 : decode cX8_cone 47 = .ok (.ldc 98, 2) := by decide +kernel
theorem dX8_cone_49 : decode cX8_cone 49 = .ok (.invokespecial 100, 3) := by decide +kernel
theorem dX8_cone_52 : decode cX8_cone 52 = .ok (.athrow, 1) := by decide +kernel
theorem dX8_cone_53 : decode cX8_cone 53 = .ok (.aload 4, 2) := by decide +kernel
theorem dX8_cone_55 : decode cX8_cone 55 = .ok (.dup, 1) := by decide +kernel
theorem dX8_cone_56 : decode cX8_cone 56 = .ok (.getfield 93, 3) := by decide +kernel
theorem dX8_cone_59 : decode cX8_cone 59 = .ok (.iload_n 2, 1) := by decide +kernel
theorem dX8_cone_60 : decode cX8_cone 60 = .ok (.isub, 1) := by decide +kernel
theorem dX8_cone_61 : decode cX8_cone 61 = .ok (.putfield 93, 3) := by decide +kernel
theorem dX8_cone_64 : decode cX8_cone 64 = .ok (.aload_n 0, 1) := by decide +kernel
theorem dX8_cone_65 : decode cX8_cone 65 = .ok (.getfield 24, 3) := by decide +kernel
theorem dX8_cone_68 : decode cX8_cone 68 = .ok (.aload_n 0, 1) := by decide +kernel
theorem dX8_cone_69 : decode cX8_cone 69 = .ok (.getfield 51, 3) := by decide +kernel
theorem dX8_cone_72 : decode cX8_cone 72 = .ok (.new 22, 3) := by decide +kernel
theorem dX8_cone_75 : decode cX8_cone 75 = .ok (.dup, 1) := by decide +kernel
theorem dX8_cone_76 : decode cX8_cone 76 = .ok (.aload 4, 2) := by decide +kernel
theorem dX8_cone_78 : decode cX8_cone 78 = .ok (.getfield 103, 3) := by decide +kernel
theorem dX8_cone_81 : decode cX8_cone 81 = .ok (.iload_n 2, 1) := by decide +kernel
theorem dX8_cone_82 : decode cX8_cone 82 = .ok (.iload_n 3, 1) := by decide +kernel
theorem dX8_cone_83 : decode cX8_cone 83 = .ok (.invokespecial 107, 3) := by decide +kernel
theorem dX8_cone_86 : decode cX8_cone 86 = .ok (.aastore, 1) := by decide +kernel
theorem dX8_cone_87 : decode cX8_cone 87 = .ok (.aload_n 0, 1) := by decide +kernel
theorem dX8_cone_88 : decode cX8_cone 88 = .ok (.dup, 1) := by decide +kernel
theorem dX8_cone_89 : decode cX8_cone 89 = .ok (.getfield 51, 3) := by decide +kernel
theorem dX8_cone_92 : decode cX8_cone 92 = .ok (.iconst 1, 1) := by decide +kernel
theorem dX8_cone_93 : decode cX8_cone 93 = .ok (.iadd, 1) := by decide +kernel
theorem dX8_cone_94 : decode cX8_cone 94 = .ok (.putfield 51, 3) := by decide +kernel
theorem dX8_cone_97 : decode cX8_cone 97 = .ok (.aload_n 0, 1) := by decide +kernel
theorem dX8_cone_98 : decode cX8_cone 98 = .ok (.getfield 51, 3) := by decide +kernel
theorem dX8_cone_101 : decode cX8_cone 101 = .ok (.iconst 1, 1) := by decide +kernel
theorem dX8_cone_102 : decode cX8_cone 102 = .ok (.isub, 1) := by decide +kernel
theorem dX8_cone_103 : decode cX8_cone 103 = .ok (.ireturn, 1) := by decide +kernel
theorem dX8_hand_0 : decode cX8_hand 0 = .ok (.aload_n 0, 1) := by decide +kernel
theorem dX8_hand_1 : decode cX8_hand 1 = .ok (.getfield 54, 3) := by decide +kernel
theorem dX8_hand_4 : decode cX8_hand 4 = .ok (.aload_n 0, 1) := by decide +kernel
theorem dX8_hand_5 : decode cX8_hand 5 = .ok (.getfield 30, 3) := by decide +kernel
theorem dX8_hand_8 : decode cX8_hand 8 = .ok (.arraylength, 1) := by decide +kernel
theorem dX8_hand_9 : decode cX8_hand 9 = .ok (.invokestatic 71, 3) := by decide +kernel
theorem dX8_hand_12 : decode cX8_hand 12 = .ok (.aload_n 0, 1) := by decide +kernel
theorem dX8_hand_13 : decode cX8_hand 13 = .ok (.getfield 30, 3) := by decide +kernel
theorem dX8_hand_16 : decode cX8_hand 16 = .ok (.aload_n 0, 1) := by decide +kernel
theorem dX8_hand_17 : decode cX8_hand 17 = .ok (.getfield 54, 3) := by decide +kernel
theorem dX8_hand_20 : decode cX8_hand 20 = .ok (.new 28, 3) := by decide +kernel
theorem dX8_hand_23 : decode cX8_hand 23 = .ok (.dup, 1) := by decide +kernel
theorem dX8_hand_24 : decode cX8_hand 24 = .ok (.invokespecial 110, 3) := by decide +kernel
theorem dX8_hand_27 : decode cX8_hand 27 = .ok (.aastore, 1) := by decide +kernel
theorem dX8_hand_28 : decode cX8_hand 28 = .ok (.aload_n 0, 1) := by decide +kernel
theorem dX8_hand_29 : decode cX8_hand 29 = .ok (.dup, 1) := by decide +kernel
theorem dX8_hand_30 : decode cX8_hand 30 = .ok (.getfield 54, 3) := by decide +kernel
theorem dX8_hand_33 : decode cX8_hand 33 = .ok (.iconst 1, 1) := by decide +kernel
theorem dX8_hand_34 : decode cX8_hand 34 = .ok (.iadd, 1) := by decide +kernel
theorem dX8_hand_35 : decode cX8_hand 35 = .ok (.putfield 54, 3) := by decide +kernel
theorem dX8_hand_38 : decode cX8_hand 38 = .ok (.aload_n 0, 1) := by decide +kernel
theorem dX8_hand_39 : decode cX8_hand 39 = .ok (.getfield 54, 3) := by decide +kernel
theorem dX8_hand_42 : decode cX8_hand 42 = .ok (.iconst 1, 1) := by decide +kernel
theorem dX8_hand_43 : decode cX8_hand 43 = .ok (.isub, 1) := by decide +kernel
theorem dX8_hand_44 : decode cX8_hand 44 = .ok (.ireturn, 1) := by decide +kernel
theorem dX8_cycle_0 : decode cX8_cycle 0 = .ok (.aload_n 0, 1) := by decide +kernel
theorem dX8_cycle_1 : decode cX8_cycle 1 = .ok (.iload_n 1, 1) := by decide +kernel
theorem dX8_cycle_2 : decode cX8_cycle 2 = .ok (.invokevirtual 111, 3) := by decide +kernel
theorem dX8_cycle_5 : decode cX8_cycle 5 = .ok (.astore_n 3, 1) := by decide +kernel
theorem dX8_cycle_6 : decode cX8_cycle 6 = .ok (.aload_n 0, 1) := by decide +kernel
theorem dX8_cycle_7 : decode cX8_cycle 7 = .ok (.iload_n 2, 1) := by decide +kernel
theorem dX8_cycle_8 : decode cX8_cycle 8 = .ok (.invokevirtual 115, 3) := by decide +kernel
theorem dX8_cycle_11 : decode cX8_cycle 11 = .ok (.astore 4, 2) := by decide +kernel
theorem dX8_cycle_13 : decode cX8_cycle 13 = .ok (.aload 4, 2) := by decide +kernel
theorem dX8_cycle_15 : decode cX8_cycle 15 = .ok (.getfield 119, 3) := by decide +kernel
theorem dX8_cycle_18 : decode cX8_cycle 18 = .ok (.aload_n 3, 1) := by decide +kernel
theorem dX8_cycle_19 : decode cX8_cycle 19 = .ok (.getfield 122, 3) := by decide +kernel
theorem dX8_cycle_22 : decode cX8_cycle 22 = .ok (.getfield 123, 3) := by decide +kernel
theorem dX8_cycle_25 : decode cX8_cycle 25 = .ok (.iadd, 1) := by decide +kernel
theorem dX8_cycle_26 : decode cX8_cycle 26 = .ok (.bipush 30, 2) := by decide +kernel
theorem dX8_cycle_28 : decode cX8_cycle 28 = .ok (.if_icmp .le 13, 3) := by decide +kernel
theorem dX8_cycle_31 : decode cX8_cycle 31 = .ok (.new 96, 3) := by decide +kernel
theorem dX8_cycle_34 : decode cX8_cycle 34 = .ok (.dup, 1) := by decide +kernel
theorem dX8_cycle_35 : decode cX8_cycle 35 = .ok (.ldc 128, 2) := by decide +kernel
theorem dX8_cycle_37 : decode cX8_cycle 37 = .ok (.invokespecial 100, 3) := by decide +kernel
theorem dX8_cycle_40 : decode cX8_cycle 40 = .ok (.athrow, 1) := by decide +kernel
theorem dX8_cycle_41 : decode cX8_cycle 41 = .ok (.aload_n 3, 1) := by decide +kernel
theorem dX8_cycle_42 : decode cX8_cycle 42 = .ok (.getfield 130, 3) := by decide +kernel
theorem dX8_cycle_45 : decode cX8_cycle 45 = .ok (.ifnull 13, 3) := by decide +kernel
theorem dX8_cycle_48 : decode cX8_cycle 48 = .ok (.new 96, 3) := by decide +kernel
theorem dX8_cycle_51 : decode cX8_cycle 51 = .ok (.dup, 1) := by decide +kernel
theorem dX8_cycle_52 : decode cX8_cycle 52 = .ok (.ldc 134, 2) := by decide +kernel
theorem dX8_cycle_54 : decode cX8_cycle 54 = .ok (.invokespecial 100, 3) := by decide +kernel
theorem dX8_cycle_57 : decode cX8_cycle 57 = .ok (.athrow, 1) := by decide +kernel
theorem dX8_cycle_58 : decode cX8_cycle 58 = .ok (.aload_n 3, 1) := by decide +kernel
theorem dX8_cycle_59 : decode cX8_cycle 59 = .ok (.getfield 136, 3) := by decide +kernel
theorem dX8_cycle_62 : decode cX8_cycle 62 = .ok (.bipush 12, 2) := by decide +kernel
theorem dX8_cycle_64 : decode cX8_cycle 64 = .ok (.invokestatic 71, 3) := by decide +kernel
theorem dX8_cycle_67 : decode cX8_cycle 67 = .ok (.aload 4, 2) := by decide +kernel
theorem dX8_cycle_69 : decode cX8_cycle 69 = .ok (.aload_n 3, 1) := by decide +kernel
theorem dX8_cycle_70 : decode cX8_cycle 70 = .ok (.getfield 122, 3) := by decide +kernel
theorem dX8_cycle_73 : decode cX8_cycle 73 = .ok (.getfield 123, 3) := by decide +kernel
theorem dX8_cycle_76 : decode cX8_cycle 76 = .ok (.invokevirtual 139, 3) := by decide +kernel
theorem dX8_cycle_79 : decode cX8_cycle 79 = .ok (.aload_n 3, 1) := by decide +kernel
theorem dX8_cycle_80 : decode cX8_cycle 80 = .ok (.invokevirtual 143, 3) := by decide +kernel
theorem dX8_cycle_83 : decode cX8_cycle 83 = .ok (.aload_n 3, 1) := by decide +kernel
theorem dX8_cycle_84 : decode cX8_cycle 84 = .ok (.iconst 0, 1) := by decide +kernel
theorem dX8_cycle_85 : decode cX8_cycle 85 = .ok (.invokevirtual 146, 3) := by decide +kernel
theorem dX8_cycle_88 : decode cX8_cycle 88 = .ok (.ireturn, 1) := by decide +kernel
theorem dX8_block_0 : decode cX8_block 0 = .ok (.iload_n 1, 1) := by decide +kernel
theorem dX8_block_1 : decode cX8_block 1 = .ok (.sipush 300, 3) := by decide +kernel
theorem dX8_block_4 : decode cX8_block 4 = .ok (.sipush 700, 3) := by decide +kernel
theorem dX8_block_7 : decode cX8_block 7 = .ok (.invokestatic 63, 3) := by decide +kernel
theorem dX8_block_10 : decode cX8_block 10 = .ok (.iload_n 2, 1) := by decide +kernel
theorem dX8_block_11 : decode cX8_block 11 = .ok (.iconst 1, 1) := by decide +kernel
theorem dX8_block_12 : decode cX8_block 12 = .ok (.bipush 6, 2) := by decide +kernel
theorem dX8_block_14 : decode cX8_block 14 = .ok (.invokestatic 63, 3) := by decide +kernel
theorem dX8_block_17 : decode cX8_block 17 = .ok (.aload_n 0, 1) := by decide +kernel
theorem dX8_block_18 : decode cX8_block 18 = .ok (.getfield 57, 3) := by decide +kernel
theorem dX8_block_21 : decode cX8_block 21 = .ok (.aload_n 0, 1) := by decide +kernel
theorem dX8_block_22 : decode cX8_block 22 = .ok (.getfield 36, 3) := by decide +kernel
theorem dX8_block_25 : decode cX8_block 25 = .ok (.arraylength, 1) := by decide +kernel
theorem dX8_block_26 : decode cX8_block 26 = .ok (.invokestatic 71, 3) := by decide +kernel
theorem dX8_block_29 : decode cX8_block 29 = .ok (.aload_n 0, 1) := by decide +kernel
theorem dX8_block_30 : decode cX8_block 30 = .ok (.getfield 36, 3) := by decide +kernel
theorem dX8_block_33 : decode cX8_block 33 = .ok (.aload_n 0, 1) := by decide +kernel
theorem dX8_block_34 : decode cX8_block 34 = .ok (.getfield 57, 3) := by decide +kernel
theorem dX8_block_37 : decode cX8_block 37 = .ok (.new 34, 3) := by decide +kernel
theorem dX8_block_40 : decode cX8_block 40 = .ok (.dup, 1) := by decide +kernel
theorem dX8_block_41 : decode cX8_block 41 = .ok (.iload_n 1, 1) := by decide +kernel
theorem dX8_block_42 : decode cX8_block 42 = .ok (.iload_n 2, 1) := by decide +kernel
theorem dX8_block_43 : decode cX8_block 43 = .ok (.invokespecial 150, 3) := by decide +kernel
theorem dX8_block_46 : decode cX8_block 46 = .ok (.aastore, 1) := by decide +kernel
theorem dX8_block_47 : decode cX8_block 47 = .ok (.aload_n 0, 1) := by decide +kernel
theorem dX8_block_48 : decode cX8_block 48 = .ok (.dup, 1) := by decide +kernel
theorem dX8_block_49 : decode cX8_block 49 = .ok (.getfield 57, 3) := by decide +kernel
theorem dX8_block_52 : decode cX8_block 52 = .ok (.iconst 1, 1) := by decide +kernel
theorem dX8_block_53 : decode cX8_block 53 = .ok (.iadd, 1) := by decide +kernel
theorem dX8_block_54 : decode cX8_block 54 = .ok (.putfield 57, 3) := by decide +kernel
theorem dX8_block_57 : decode cX8_block 57 = .ok (.aload_n 0, 1) := by decide +kernel
theorem dX8_block_58 : decode cX8_block 58 = .ok (.getfield 57, 3) := by decide +kernel
theorem dX8_block_61 : decode cX8_block 61 = .ok (.iconst 1, 1) := by decide +kernel
theorem dX8_block_62 : decode cX8_block 62 = .ok (.isub, 1) := by decide +kernel
theorem dX8_block_63 : decode cX8_block 63 = .ok (.ireturn, 1) := by decide +kernel
theorem dX8_draw_0 : decode cX8_draw 0 = .ok (.aload_n 0, 1) := by decide +kernel
theorem dX8_draw_1 : decode cX8_draw 1 = .ok (.iload_n 1, 1) := by decide +kernel
theorem dX8_draw_2 : decode cX8_draw 2 = .ok (.invokevirtual 111, 3) := by decide +kernel
theorem dX8_draw_5 : decode cX8_draw 5 = .ok (.astore_n 3, 1) := by decide +kernel
theorem dX8_draw_6 : decode cX8_draw 6 = .ok (.aload_n 0, 1) := by decide +kernel
theorem dX8_draw_7 : decode cX8_draw 7 = .ok (.iload_n 2, 1) := by decide +kernel
theorem dX8_draw_8 : decode cX8_draw 8 = .ok (.invokevirtual 152, 3) := by decide +kernel
theorem dX8_draw_11 : decode cX8_draw 11 = .ok (.astore 4, 2) := by decide +kernel
theorem dX8_draw_13 : decode cX8_draw 13 = .ok (.aload_n 3, 1) := by decide +kernel
theorem dX8_draw_14 : decode cX8_draw 14 = .ok (.aload 4, 2) := by decide +kernel
theorem dX8_draw_16 : decode cX8_draw 16 = .ok (.invokevirtual 156, 3) := by decide +kernel
theorem dX8_draw_19 : decode cX8_draw 19 = .ok (.istore 5, 2) := by decide +kernel
theorem dX8_draw_21 : decode cX8_draw 21 = .ok (.iload 5, 2) := by decide +kernel
theorem dX8_draw_23 : decode cX8_draw 23 = .ok (.ifCond .ne 9, 3) := by decide +kernel
theorem dX8_draw_26 : decode cX8_draw 26 = .ok (.aload_n 3, 1) := by decide +kernel
theorem dX8_draw_27 : decode cX8_draw 27 = .ok (.aload 4, 2) := by decide +kernel
theorem dX8_draw_29 : decode cX8_draw 29 = .ok (.invokevirtual 160, 3) := by decide +kernel
theorem dX8_draw_32 : decode cX8_draw 32 = .ok (.iload 5, 2) := by decide +kernel
theorem dX8_draw_34 : decode cX8_draw 34 = .ok (.ireturn, 1) := by decide +kernel
theorem dX8_trim_0 : decode cX8_trim 0 = .ok (.aload_n 0, 1) := by decide +kernel
theorem dX8_trim_1 : decode cX8_trim 1 = .ok (.iload_n 1, 1) := by decide +kernel
theorem dX8_trim_2 : decode cX8_trim 2 = .ok (.invokevirtual 111, 3) := by decide +kernel
theorem dX8_trim_5 : decode cX8_trim 5 = .ok (.astore_n 2, 1) := by decide +kernel
theorem dX8_trim_6 : decode cX8_trim 6 = .ok (.aload_n 2, 1) := by decide +kernel
theorem dX8_trim_7 : decode cX8_trim 7 = .ok (.getfield 164, 3) := by decide +kernel
theorem dX8_trim_10 : decode cX8_trim 10 = .ok (.ifCond .eq 13, 3) := by decide +kernel
theorem dX8_trim_13 : decode cX8_trim 13 = .ok (.new 96, 3) := by decide +kernel
theorem dX8_trim_16 : decode cX8_trim 16 = .ok (.dup, 1) := by decide +kernel
theorem dX8_trim_17 : decode cX8_trim 17 = .ok (.ldc 168, 2) := by decide +kernel
theorem dX8_trim_19 : decode cX8_trim 19 = .ok (.invokespecial 100, 3) := by decide +kernel
theorem dX8_trim_22 : decode cX8_trim 22 = .ok (.athrow, 1) := by decide +kernel
theorem dX8_trim_23 : decode cX8_trim 23 = .ok (.aload_n 0, 1) := by decide +kernel
theorem dX8_trim_24 : decode cX8_trim 24 = .ok (.invokevirtual 170, 3) := by decide +kernel
theorem dX8_trim_27 : decode cX8_trim 27 = .ok (.astore_n 3, 1) := by decide +kernel
theorem dX8_trim_28 : decode cX8_trim 28 = .ok (.aload_n 0, 1) := by decide +kernel
theorem dX8_trim_29 : decode cX8_trim 29 = .ok (.invokevirtual 83, 3) := by decide +kernel
theorem dX8_trim_32 : decode cX8_trim 32 = .ok (.aload_n 2, 1) := by decide +kernel
theorem dX8_trim_33 : decode cX8_trim 33 = .ok (.aload_n 3, 1) := by decide +kernel
theorem dX8_trim_34 : decode cX8_trim 34 = .ok (.ifnull 18, 3) := by decide +kernel
theorem dX8_trim_37 : decode cX8_trim 37 = .ok (.aload_n 3, 1) := by decide +kernel
theorem dX8_trim_38 : decode cX8_trim 38 = .ok (.aload_n 0, 1) := by decide +kernel
theorem dX8_trim_39 : decode cX8_trim 39 = .ok (.invokevirtual 174, 3) := by decide +kernel
theorem dX8_trim_42 : decode cX8_trim 42 = .ok (.invokevirtual 177, 3) := by decide +kernel
theorem dX8_trim_45 : decode cX8_trim 45 = .ok (.ifCond .eq 7, 3) := by decide +kernel
theorem dX8_trim_48 : decode cX8_trim 48 = .ok (.iconst 1, 1) := by decide +kernel
theorem dX8_trim_49 : decode cX8_trim 49 = .ok (.goto 4, 3) := by decide +kernel
theorem dX8_trim_52 : decode cX8_trim 52 = .ok (.iconst 0, 1) := by decide +kernel
theorem dX8_trim_53 : decode cX8_trim 53 = .ok (.putfield 164, 3) := by decide +kernel
theorem dX8_trim_56 : decode cX8_trim 56 = .ok (.aload_n 2, 1) := by decide +kernel
theorem dX8_trim_57 : decode cX8_trim 57 = .ok (.getfield 164, 3) := by decide +kernel
theorem dX8_trim_60 : decode cX8_trim 60 = .ok (.ireturn, 1) := by decide +kernel
theorem dX8_pass_0 : decode cX8_pass 0 = .ok (.iload_n 1, 1) := by decide +kernel
theorem dX8_pass_1 : decode cX8_pass 1 = .ok (.iconst 1, 1) := by decide +kernel
theorem dX8_pass_2 : decode cX8_pass 2 = .ok (.bipush 30, 2) := by decide +kernel
theorem dX8_pass_4 : decode cX8_pass 4 = .ok (.invokestatic 63, 3) := by decide +kernel
theorem dX8_pass_7 : decode cX8_pass 7 = .ok (.aload_n 0, 1) := by decide +kernel
theorem dX8_pass_8 : decode cX8_pass 8 = .ok (.dup, 1) := by decide +kernel
theorem dX8_pass_9 : decode cX8_pass 9 = .ok (.getfield 60, 3) := by decide +kernel
theorem dX8_pass_12 : decode cX8_pass 12 = .ok (.iload_n 1, 1) := by decide +kernel
theorem dX8_pass_13 : decode cX8_pass 13 = .ok (.iadd, 1) := by decide +kernel
theorem dX8_pass_14 : decode cX8_pass 14 = .ok (.putfield 60, 3) := by decide +kernel
theorem dX8_pass_17 : decode cX8_pass 17 = .ok (.aload_n 0, 1) := by decide +kernel
theorem dX8_pass_18 : decode cX8_pass 18 = .ok (.getfield 30, 3) := by decide +kernel
theorem dX8_pass_21 : decode cX8_pass 21 = .ok (.astore_n 2, 1) := by decide +kernel
theorem dX8_pass_22 : decode cX8_pass 22 = .ok (.aload_n 2, 1) := by decide +kernel
theorem dX8_pass_23 : decode cX8_pass 23 = .ok (.arraylength, 1) := by decide +kernel
theorem dX8_pass_24 : decode cX8_pass 24 = .ok (.istore_n 3, 1) := by decide +kernel
theorem dX8_pass_25 : decode cX8_pass 25 = .ok (.iconst 0, 1) := by decide +kernel
theorem dX8_pass_26 : decode cX8_pass 26 = .ok (.istore 4, 2) := by decide +kernel
theorem dX8_pass_28 : decode cX8_pass 28 = .ok (.iload 4, 2) := by decide +kernel
theorem dX8_pass_30 : decode cX8_pass 30 = .ok (.iload_n 3, 1) := by decide +kernel
theorem dX8_pass_31 : decode cX8_pass 31 = .ok (.if_icmp .ge 26, 3) := by decide +kernel
theorem dX8_pass_34 : decode cX8_pass 34 = .ok (.aload_n 2, 1) := by decide +kernel
theorem dX8_pass_35 : decode cX8_pass 35 = .ok (.iload 4, 2) := by decide +kernel
theorem dX8_pass_37 : decode cX8_pass 37 = .ok (.aaload, 1) := by decide +kernel
theorem dX8_pass_38 : decode cX8_pass 38 = .ok (.astore 5, 2) := by decide +kernel
theorem dX8_pass_40 : decode cX8_pass 40 = .ok (.aload 5, 2) := by decide +kernel
theorem dX8_pass_42 : decode cX8_pass 42 = .ok (.ifnull 9, 3) := by decide +kernel
theorem dX8_pass_45 : decode cX8_pass 45 = .ok (.aload 5, 2) := by decide +kernel
theorem dX8_pass_47 : decode cX8_pass 47 = .ok (.iconst 0, 1) := by decide +kernel
theorem dX8_pass_48 : decode cX8_pass 48 = .ok (.putfield 119, 3) := by decide +kernel
theorem dX8_pass_51 : decode cX8_pass 51 = .ok (.iinc 4 1, 3) := by decide +kernel
theorem dX8_pass_54 : decode cX8_pass 54 = .ok (.goto (-26), 3) := by decide +kernel
theorem dX8_pass_57 : decode cX8_pass 57 = .ok (.aload_n 0, 1) := by decide +kernel
theorem dX8_pass_58 : decode cX8_pass 58 = .ok (.invokevirtual 174, 3) := by decide +kernel
theorem dX8_pass_61 : decode cX8_pass 61 = .ok (.ireturn, 1) := by decide +kernel
theorem dX8_about_0 : decode cX8_about 0 = .ok (.aload_n 0, 1) := by decide +kernel
theorem dX8_about_1 : decode cX8_about 1 = .ok (.iload_n 1, 1) := by decide +kernel
theorem dX8_about_2 : decode cX8_about 2 = .ok (.invokevirtual 111, 3) := by decide +kernel
theorem dX8_about_5 : decode cX8_about 5 = .ok (.astore 4, 2) := by decide +kernel
theorem dX8_about_7 : decode cX8_about 7 = .ok (.iload_n 2, 1) := by decide +kernel
theorem dX8_about_8 : decode cX8_about 8 = .ok (.bipush 6, 2) := by decide +kernel
theorem dX8_about_10 : decode cX8_about 10 = .ok (.invokestatic 183, 3) := by decide +kernel
theorem dX8_about_13 : decode cX8_about 13 = .ok (.iload_n 3, 1) := by decide +kernel
theorem dX8_about_14 : decode cX8_about 14 = .ok (.iconst 0, 1) := by decide +kernel
theorem dX8_about_15 : decode cX8_about 15 = .ok (.iconst 3, 1) := by decide +kernel
theorem dX8_about_16 : decode cX8_about 16 = .ok (.invokestatic 63, 3) := by decide +kernel
theorem dX8_about_19 : decode cX8_about 19 = .ok (.iload_n 3, 1) := by decide +kernel
theorem dX8_about_20 : decode cX8_about 20 = .ok (.tableswitch 48 0 2 #[28, 35, 41], 28) := by decide +kernel
theorem dX8_about_48 : decode cX8_about 48 = .ok (.aload 4, 2) := by decide +kernel
theorem dX8_about_50 : decode cX8_about 50 = .ok (.iload_n 2, 1) := by decide +kernel
theorem dX8_about_51 : decode cX8_about 51 = .ok (.invokevirtual 146, 3) := by decide +kernel
theorem dX8_about_54 : decode cX8_about 54 = .ok (.ireturn, 1) := by decide +kernel
theorem dX8_about_55 : decode cX8_about 55 = .ok (.aload 4, 2) := by decide +kernel
theorem dX8_about_57 : decode cX8_about 57 = .ok (.getfield 186, 3) := by decide +kernel
theorem dX8_about_60 : decode cX8_about 60 = .ok (.ireturn, 1) := by decide +kernel
theorem dX8_about_61 : decode cX8_about 61 = .ok (.aload 4, 2) := by decide +kernel
theorem dX8_about_63 : decode cX8_about 63 = .ok (.iload_n 2, 1) := by decide +kernel
theorem dX8_about_64 : decode cX8_about 64 = .ok (.invokevirtual 189, 3) := by decide +kernel
theorem dX8_about_67 : decode cX8_about 67 = .ok (.ireturn, 1) := by decide +kernel
theorem dX8_about_68 : decode cX8_about 68 = .ok (.aload 4, 2) := by decide +kernel
theorem dX8_about_70 : decode cX8_about 70 = .ok (.iload_n 2, 1) := by decide +kernel
theorem dX8_about_71 : decode cX8_about 71 = .ok (.invokevirtual 192, 3) := by decide +kernel
theorem dX8_about_74 : decode cX8_about 74 = .ok (.ireturn, 1) := by decide +kernel
theorem dX8_widthAnew_0 : decode cX8_widthAnew 0 = .ok (.aload_n 0, 1) := by decide +kernel
theorem dX8_widthAnew_1 : decode cX8_widthAnew 1 = .ok (.iload_n 1, 1) := by decide +kernel
theorem dX8_widthAnew_2 : decode cX8_widthAnew 2 = .ok (.invokevirtual 111, 3) := by decide +kernel
theorem dX8_widthAnew_5 : decode cX8_widthAnew 5 = .ok (.astore_n 3, 1) := by decide +kernel
theorem dX8_widthAnew_6 : decode cX8_widthAnew 6 = .ok (.iload_n 2, 1) := by decide +kernel
theorem dX8_widthAnew_7 : decode cX8_widthAnew 7 = .ok (.bipush 6, 2) := by decide +kernel
theorem dX8_widthAnew_9 : decode cX8_widthAnew 9 = .ok (.invokestatic 183, 3) := by decide +kernel
theorem dX8_widthAnew_12 : decode cX8_widthAnew 12 = .ok (.aload_n 3, 1) := by decide +kernel
theorem dX8_widthAnew_13 : decode cX8_widthAnew 13 = .ok (.iload_n 2, 1) := by decide +kernel
theorem dX8_widthAnew_14 : decode cX8_widthAnew 14 = .ok (.invokevirtual 195, 3) := by decide +kernel
theorem dX8_widthAnew_17 : decode cX8_widthAnew 17 = .ok (.ireturn, 1) := by decide +kernel
theorem dX8_brim_0 : decode cX8_brim 0 = .ok (.aload_n 0, 1) := by decide +kernel
theorem dX8_brim_1 : decode cX8_brim 1 = .ok (.iload_n 1, 1) := by decide +kernel
theorem dX8_brim_2 : decode cX8_brim 2 = .ok (.invokevirtual 111, 3) := by decide +kernel
theorem dX8_brim_5 : decode cX8_brim 5 = .ok (.astore_n 3, 1) := by decide +kernel
theorem dX8_brim_6 : decode cX8_brim 6 = .ok (.iload_n 2, 1) := by decide +kernel
theorem dX8_brim_7 : decode cX8_brim 7 = .ok (.bipush 10, 2) := by decide +kernel
theorem dX8_brim_9 : decode cX8_brim 9 = .ok (.sipush 150, 3) := by decide +kernel
theorem dX8_brim_12 : decode cX8_brim 12 = .ok (.invokestatic 63, 3) := by decide +kernel
theorem dX8_brim_15 : decode cX8_brim 15 = .ok (.aload_n 3, 1) := by decide +kernel
theorem dX8_brim_16 : decode cX8_brim 16 = .ok (.iconst 0, 1) := by decide +kernel
theorem dX8_brim_17 : decode cX8_brim 17 = .ok (.invokevirtual 146, 3) := by decide +kernel
theorem dX8_brim_20 : decode cX8_brim 20 = .ok (.istore 4, 2) := by decide +kernel
theorem dX8_brim_22 : decode cX8_brim 22 = .ok (.iload 4, 2) := by decide +kernel
theorem dX8_brim_24 : decode cX8_brim 24 = .ok (.ifCond .gt 5, 3) := by decide +kernel
theorem dX8_brim_27 : decode cX8_brim 27 = .ok (.iconst 0, 1) := by decide +kernel
theorem dX8_brim_28 : decode cX8_brim 28 = .ok (.ireturn, 1) := by decide +kernel
theorem dX8_brim_29 : decode cX8_brim 29 = .ok (.iconst 2, 1) := by decide +kernel
theorem dX8_brim_30 : decode cX8_brim 30 = .ok (.iload_n 2, 1) := by decide +kernel
theorem dX8_brim_31 : decode cX8_brim 31 = .ok (.imul, 1) := by decide +kernel
theorem dX8_brim_32 : decode cX8_brim 32 = .ok (.i2f, 1) := by decide +kernel
theorem dX8_brim_33 : decode cX8_brim 33 = .ok (.ldc 198, 2) := by decide +kernel
theorem dX8_brim_35 : decode cX8_brim 35 = .ok (.fmul, 1) := by decide +kernel
theorem dX8_brim_36 : decode cX8_brim 36 = .ok (.iload 4, 2) := by decide +kernel
theorem dX8_brim_38 : decode cX8_brim 38 = .ok (.i2f, 1) := by decide +kernel
theorem dX8_brim_39 : decode cX8_brim 39 = .ok (.fdiv, 1) := by decide +kernel
theorem dX8_brim_40 : decode cX8_brim 40 = .ok (.invokestatic 199, 3) := by decide +kernel
theorem dX8_brim_43 : decode cX8_brim 43 = .ok (.ireturn, 1) := by decide +kernel
theorem dX8_count_0 : decode cX8_count 0 = .ok (.iload_n 1, 1) := by decide +kernel
theorem dX8_count_1 : decode cX8_count 1 = .ok (.iconst 1, 1) := by decide +kernel
theorem dX8_count_2 : decode cX8_count 2 = .ok (.bipush 100, 2) := by decide +kernel
theorem dX8_count_4 : decode cX8_count 4 = .ok (.invokestatic 63, 3) := by decide +kernel
theorem dX8_count_7 : decode cX8_count 7 = .ok (.aload_n 0, 1) := by decide +kernel
theorem dX8_count_8 : decode cX8_count 8 = .ok (.invokevirtual 203, 3) := by decide +kernel
theorem dX8_count_11 : decode cX8_count 11 = .ok (.astore_n 2, 1) := by decide +kernel
theorem dX8_count_12 : decode cX8_count 12 = .ok (.aload_n 0, 1) := by decide +kernel
theorem dX8_count_13 : decode cX8_count 13 = .ok (.invokevirtual 83, 3) := by decide +kernel
theorem dX8_count_16 : decode cX8_count 16 = .ok (.aload_n 2, 1) := by decide +kernel
theorem dX8_count_17 : decode cX8_count 17 = .ok (.ifnonnull 7, 3) := by decide +kernel
theorem dX8_count_20 : decode cX8_count 20 = .ok (.iconst (-1), 1) := by decide +kernel
theorem dX8_count_21 : decode cX8_count 21 = .ok (.goto 8, 3) := by decide +kernel
theorem dX8_count_24 : decode cX8_count 24 = .ok (.aload_n 2, 1) := by decide +kernel
theorem dX8_count_25 : decode cX8_count 25 = .ok (.iload_n 1, 1) := by decide +kernel
theorem dX8_count_26 : decode cX8_count 26 = .ok (.invokevirtual 207, 3) := by decide +kernel
theorem dX8_count_29 : decode cX8_count 29 = .ok (.ireturn, 1) := by decide +kernel
theorem dX8_countAnew_0 : decode cX8_countAnew 0 = .ok (.iload_n 1, 1) := by decide +kernel
theorem dX8_countAnew_1 : decode cX8_countAnew 1 = .ok (.iconst 1, 1) := by decide +kernel
theorem dX8_countAnew_2 : decode cX8_countAnew 2 = .ok (.bipush 100, 2) := by decide +kernel
theorem dX8_countAnew_4 : decode cX8_countAnew 4 = .ok (.invokestatic 63, 3) := by decide +kernel
theorem dX8_countAnew_7 : decode cX8_countAnew 7 = .ok (.aload_n 0, 1) := by decide +kernel
theorem dX8_countAnew_8 : decode cX8_countAnew 8 = .ok (.invokevirtual 203, 3) := by decide +kernel
theorem dX8_countAnew_11 : decode cX8_countAnew 11 = .ok (.astore_n 2, 1) := by decide +kernel
theorem dX8_countAnew_12 : decode cX8_countAnew 12 = .ok (.aload_n 0, 1) := by decide +kernel
theorem dX8_countAnew_13 : decode cX8_countAnew 13 = .ok (.invokevirtual 83, 3) := by decide +kernel
theorem dX8_countAnew_16 : decode cX8_countAnew 16 = .ok (.aload_n 2, 1) := by decide +kernel
theorem dX8_countAnew_17 : decode cX8_countAnew 17 = .ok (.ifnonnull 7, 3) := by decide +kernel
theorem dX8_countAnew_20 : decode cX8_countAnew 20 = .ok (.iconst (-1), 1) := by decide +kernel
theorem dX8_countAnew_21 : decode cX8_countAnew 21 = .ok (.goto 8, 3) := by decide +kernel
theorem dX8_countAnew_24 : decode cX8_countAnew 24 = .ok (.aload_n 2, 1) := by decide +kernel
theorem dX8_countAnew_25 : decode cX8_countAnew 25 = .ok (.iload_n 1, 1) := by decide +kernel
theorem dX8_countAnew_26 : decode cX8_countAnew 26 = .ok (.invokevirtual 212, 3) := by decide +kernel
theorem dX8_countAnew_29 : decode cX8_countAnew 29 = .ok (.ireturn, 1) := by decide +kernel
theorem dX8_rows_0 : decode cX8_rows 0 = .ok (.iload_n 1, 1) := by decide +kernel
theorem dX8_rows_1 : decode cX8_rows 1 = .ok (.iconst 1, 1) := by decide +kernel
theorem dX8_rows_2 : decode cX8_rows 2 = .ok (.sipush 2000, 3) := by decide +kernel
theorem dX8_rows_5 : decode cX8_rows 5 = .ok (.invokestatic 63, 3) := by decide +kernel
theorem dX8_rows_8 : decode cX8_rows 8 = .ok (.aload_n 0, 1) := by decide +kernel
theorem dX8_rows_9 : decode cX8_rows 9 = .ok (.invokevirtual 203, 3) := by decide +kernel
theorem dX8_rows_12 : decode cX8_rows 12 = .ok (.astore_n 2, 1) := by decide +kernel
theorem dX8_rows_13 : decode cX8_rows 13 = .ok (.aload_n 0, 1) := by decide +kernel
theorem dX8_rows_14 : decode cX8_rows 14 = .ok (.invokevirtual 83, 3) := by decide +kernel
theorem dX8_rows_17 : decode cX8_rows 17 = .ok (.aload_n 2, 1) := by decide +kernel
theorem dX8_rows_18 : decode cX8_rows 18 = .ok (.ifnonnull 7, 3) := by decide +kernel
theorem dX8_rows_21 : decode cX8_rows 21 = .ok (.iconst (-1), 1) := by decide +kernel
theorem dX8_rows_22 : decode cX8_rows 22 = .ok (.goto 8, 3) := by decide +kernel
theorem dX8_rows_25 : decode cX8_rows 25 = .ok (.aload_n 2, 1) := by decide +kernel
theorem dX8_rows_26 : decode cX8_rows 26 = .ok (.iload_n 1, 1) := by decide +kernel
theorem dX8_rows_27 : decode cX8_rows 27 = .ok (.invokevirtual 215, 3) := by decide +kernel
theorem dX8_rows_30 : decode cX8_rows 30 = .ok (.ireturn, 1) := by decide +kernel
theorem dX8_measure_0 : decode cX8_measure 0 = .ok (.iload_n 1, 1) := by decide +kernel
theorem dX8_measure_1 : decode cX8_measure 1 = .ok (.bipush 8, 2) := by decide +kernel
theorem dX8_measure_3 : decode cX8_measure 3 = .ok (.invokestatic 183, 3) := by decide +kernel
theorem dX8_measure_6 : decode cX8_measure 6 = .ok (.iload_n 2, 1) := by decide +kernel
theorem dX8_measure_7 : decode cX8_measure 7 = .ok (.iconst 0, 1) := by decide +kernel
theorem dX8_measure_8 : decode cX8_measure 8 = .ok (.sipush 200, 3) := by decide +kernel
theorem dX8_measure_11 : decode cX8_measure 11 = .ok (.invokestatic 63, 3) := by decide +kernel
theorem dX8_measure_14 : decode cX8_measure 14 = .ok (.aload_n 0, 1) := by decide +kernel
theorem dX8_measure_15 : decode cX8_measure 15 = .ok (.getfield 43, 3) := by decide +kernel
theorem dX8_measure_18 : decode cX8_measure 18 = .ok (.iload_n 1, 1) := by decide +kernel
theorem dX8_measure_19 : decode cX8_measure 19 = .ok (.iload_n 2, 1) := by decide +kernel
theorem dX8_measure_20 : decode cX8_measure 20 = .ok (.invokevirtual 218, 3) := by decide +kernel
theorem dX8_measure_23 : decode cX8_measure 23 = .ok (.aload_n 0, 1) := by decide +kernel
theorem dX8_measure_24 : decode cX8_measure 24 = .ok (.getfield 43, 3) := by decide +kernel
theorem dX8_measure_27 : decode cX8_measure 27 = .ok (.invokevirtual 221, 3) := by decide +kernel
theorem dX8_measure_30 : decode cX8_measure 30 = .ok (.ireturn, 1) := by decide +kernel
theorem dX8_fits_0 : decode cX8_fits 0 = .ok (.aload_n 0, 1) := by decide +kernel
theorem dX8_fits_1 : decode cX8_fits 1 = .ok (.iload_n 1, 1) := by decide +kernel
theorem dX8_fits_2 : decode cX8_fits 2 = .ok (.invokevirtual 111, 3) := by decide +kernel
theorem dX8_fits_5 : decode cX8_fits 5 = .ok (.iconst 0, 1) := by decide +kernel
theorem dX8_fits_6 : decode cX8_fits 6 = .ok (.invokevirtual 146, 3) := by decide +kernel
theorem dX8_fits_9 : decode cX8_fits 9 = .ok (.aload_n 0, 1) := by decide +kernel
theorem dX8_fits_10 : decode cX8_fits 10 = .ok (.getfield 43, 3) := by decide +kernel
theorem dX8_fits_13 : decode cX8_fits 13 = .ok (.invokevirtual 221, 3) := by decide +kernel
theorem dX8_fits_16 : decode cX8_fits 16 = .ok (.isub, 1) := by decide +kernel
theorem dX8_fits_17 : decode cX8_fits 17 = .ok (.istore_n 2, 1) := by decide +kernel
theorem dX8_fits_18 : decode cX8_fits 18 = .ok (.iload_n 2, 1) := by decide +kernel
theorem dX8_fits_19 : decode cX8_fits 19 = .ok (.ifCond .lt 13, 3) := by decide +kernel
theorem dX8_fits_22 : decode cX8_fits 22 = .ok (.iload_n 2, 1) := by decide +kernel
theorem dX8_fits_23 : decode cX8_fits 23 = .ok (.bipush 12, 2) := by decide +kernel
theorem dX8_fits_25 : decode cX8_fits 25 = .ok (.if_icmp .gt 7, 3) := by decide +kernel
theorem dX8_fits_28 : decode cX8_fits 28 = .ok (.iconst 1, 1) := by decide +kernel
theorem dX8_fits_29 : decode cX8_fits 29 = .ok (.goto 4, 3) := by decide +kernel
theorem dX8_fits_32 : decode cX8_fits 32 = .ok (.iconst 0, 1) := by decide +kernel
theorem dX8_fits_33 : decode cX8_fits 33 = .ok (.ireturn, 1) := by decide +kernel
theorem dX8_size_0 : decode cX8_size 0 = .ok (.iload_n 1, 1) := by decide +kernel
theorem dX8_size_1 : decode cX8_size 1 = .ok (.iconst 4, 1) := by decide +kernel
theorem dX8_size_2 : decode cX8_size 2 = .ok (.invokestatic 183, 3) := by decide +kernel
theorem dX8_size_5 : decode cX8_size 5 = .ok (.aload_n 0, 1) := by decide +kernel
theorem dX8_size_6 : decode cX8_size 6 = .ok (.getfield 43, 3) := by decide +kernel
theorem dX8_size_9 : decode cX8_size 9 = .ok (.iload_n 1, 1) := by decide +kernel
theorem dX8_size_10 : decode cX8_size 10 = .ok (.invokevirtual 224, 3) := by decide +kernel
theorem dX8_size_13 : decode cX8_size 13 = .ok (.invokestatic 199, 3) := by decide +kernel
theorem dX8_size_16 : decode cX8_size 16 = .ok (.ireturn, 1) := by decide +kernel
theorem dX8_air_0 : decode cX8_air 0 = .ok (.aload_n 0, 1) := by decide +kernel
theorem dX8_air_1 : decode cX8_air 1 = .ok (.iload_n 1, 1) := by decide +kernel
theorem dX8_air_2 : decode cX8_air 2 = .ok (.invokevirtual 115, 3) := by decide +kernel
theorem dX8_air_5 : decode cX8_air 5 = .ok (.astore_n 3, 1) := by decide +kernel
theorem dX8_air_6 : decode cX8_air 6 = .ok (.iload_n 2, 1) := by decide +kernel
theorem dX8_air_7 : decode cX8_air 7 = .ok (.ifCond .eq 10, 3) := by decide +kernel
theorem dX8_air_10 : decode cX8_air 10 = .ok (.aload_n 3, 1) := by decide +kernel
theorem dX8_air_11 : decode cX8_air 11 = .ok (.getfield 119, 3) := by decide +kernel
theorem dX8_air_14 : decode cX8_air 14 = .ok (.goto 7, 3) := by decide +kernel
theorem dX8_air_17 : decode cX8_air 17 = .ok (.aload_n 3, 1) := by decide +kernel
theorem dX8_air_18 : decode cX8_air 18 = .ok (.getfield 228, 3) := by decide +kernel
theorem dX8_air_21 : decode cX8_air 21 = .ok (.ireturn, 1) := by decide +kernel
theorem dX8_grams_0 : decode cX8_grams 0 = .ok (.aload_n 0, 1) := by decide +kernel
theorem dX8_grams_1 : decode cX8_grams 1 = .ok (.iload_n 1, 1) := by decide +kernel
theorem dX8_grams_2 : decode cX8_grams 2 = .ok (.invokevirtual 89, 3) := by decide +kernel
theorem dX8_grams_5 : decode cX8_grams 5 = .ok (.getfield 93, 3) := by decide +kernel
theorem dX8_grams_8 : decode cX8_grams 8 = .ok (.ireturn, 1) := by decide +kernel
theorem dX8_refuseOutside_0 : decode cX8_refuseOutside 0 = .ok (.iload_n 0, 1) := by decide +kernel
theorem dX8_refuseOutside_1 : decode cX8_refuseOutside 1 = .ok (.iload_n 1, 1) := by decide +kernel
theorem dX8_refuseOutside_2 : decode cX8_refuseOutside 2 = .ok (.if_icmp .lt 8, 3) := by decide +kernel
theorem dX8_refuseOutside_5 : decode cX8_refuseOutside 5 = .ok (.iload_n 0, 1) := by decide +kernel
theorem dX8_refuseOutside_6 : decode cX8_refuseOutside 6 = .ok (.iload_n 2, 1) := by decide +kernel
theorem dX8_refuseOutside_7 : decode cX8_refuseOutside 7 = .ok (.if_icmp .le 13, 3) := by decide +kernel
theorem dX8_refuseOutside_10 : decode cX8_refuseOutside 10 = .ok (.new 231, 3) := by decide +kernel
theorem dX8_refuseOutside_13 : decode cX8_refuseOutside 13 = .ok (.dup, 1) := by decide +kernel
theorem dX8_refuseOutside_14 : decode cX8_refuseOutside 14 = .ok (.ldc 233, 2) := by decide +kernel
theorem dX8_refuseOutside_16 : decode cX8_refuseOutside 16 = .ok (.invokespecial 235, 3) := by decide +kernel
theorem dX8_refuseOutside_19 : decode cX8_refuseOutside 19 = .ok (.athrow, 1) := by decide +kernel
theorem dX8_refuseOutside_20 : decode cX8_refuseOutside 20 = .ok (.return_, 1) := by decide +kernel
theorem dX8_refuseFull_0 : decode cX8_refuseFull 0 = .ok (.iload_n 0, 1) := by decide +kernel
theorem dX8_refuseFull_1 : decode cX8_refuseFull 1 = .ok (.iload_n 1, 1) := by decide +kernel
theorem dX8_refuseFull_2 : decode cX8_refuseFull 2 = .ok (.if_icmp .lt 13, 3) := by decide +kernel
theorem dX8_refuseFull_5 : decode cX8_refuseFull 5 = .ok (.new 96, 3) := by decide +kernel
theorem dX8_refuseFull_8 : decode cX8_refuseFull 8 = .ok (.dup, 1) := by decide +kernel
theorem dX8_refuseFull_9 : decode cX8_refuseFull 9 = .ok (.ldc 236, 2) := by decide +kernel
theorem dX8_refuseFull_11 : decode cX8_refuseFull 11 = .ok (.invokespecial 100, 3) := by decide +kernel
theorem dX8_refuseFull_14 : decode cX8_refuseFull 14 = .ok (.athrow, 1) := by decide +kernel
theorem dX8_refuseFull_15 : decode cX8_refuseFull 15 = .ok (.return_, 1) := by decide +kernel
theorem dX8_refuseNoSuch_0 : decode cX8_refuseNoSuch 0 = .ok (.iload_n 0, 1) := by decide +kernel
theorem dX8_refuseNoSuch_1 : decode cX8_refuseNoSuch 1 = .ok (.ifCond .lt 8, 3) := by decide +kernel
theorem dX8_refuseNoSuch_4 : decode cX8_refuseNoSuch 4 = .ok (.iload_n 0, 1) := by decide +kernel
theorem dX8_refuseNoSuch_5 : decode cX8_refuseNoSuch 5 = .ok (.iload_n 1, 1) := by decide +kernel
theorem dX8_refuseNoSuch_6 : decode cX8_refuseNoSuch 6 = .ok (.if_icmp .lt 13, 3) := by decide +kernel
theorem dX8_refuseNoSuch_9 : decode cX8_refuseNoSuch 9 = .ok (.new 238, 3) := by decide +kernel
theorem dX8_refuseNoSuch_12 : decode cX8_refuseNoSuch 12 = .ok (.dup, 1) := by decide +kernel
theorem dX8_refuseNoSuch_13 : decode cX8_refuseNoSuch 13 = .ok (.ldc 240, 2) := by decide +kernel
theorem dX8_refuseNoSuch_15 : decode cX8_refuseNoSuch 15 = .ok (.invokespecial 242, 3) := by decide +kernel
theorem dX8_refuseNoSuch_18 : decode cX8_refuseNoSuch 18 = .ok (.athrow, 1) := by decide +kernel
theorem dX8_refuseNoSuch_19 : decode cX8_refuseNoSuch 19 = .ok (.return_, 1) := by decide +kernel
theorem dX8_lotAt_0 : decode cX8_lotAt 0 = .ok (.iload_n 1, 1) := by decide +kernel
theorem dX8_lotAt_1 : decode cX8_lotAt 1 = .ok (.aload_n 0, 1) := by decide +kernel
theorem dX8_lotAt_2 : decode cX8_lotAt 2 = .ok (.getfield 18, 3) := by decide +kernel
theorem dX8_lotAt_5 : decode cX8_lotAt 5 = .ok (.arraylength, 1) := by decide +kernel
theorem dX8_lotAt_6 : decode cX8_lotAt 6 = .ok (.invokestatic 183, 3) := by decide +kernel
theorem dX8_lotAt_9 : decode cX8_lotAt 9 = .ok (.aload_n 0, 1) := by decide +kernel
theorem dX8_lotAt_10 : decode cX8_lotAt 10 = .ok (.getfield 18, 3) := by decide +kernel
theorem dX8_lotAt_13 : decode cX8_lotAt 13 = .ok (.iload_n 1, 1) := by decide +kernel
theorem dX8_lotAt_14 : decode cX8_lotAt 14 = .ok (.aaload, 1) := by decide +kernel
theorem dX8_lotAt_15 : decode cX8_lotAt 15 = .ok (.astore_n 2, 1) := by decide +kernel
theorem dX8_lotAt_16 : decode cX8_lotAt 16 = .ok (.aload_n 2, 1) := by decide +kernel
theorem dX8_lotAt_17 : decode cX8_lotAt 17 = .ok (.ifnonnull 13, 3) := by decide +kernel
theorem dX8_lotAt_20 : decode cX8_lotAt 20 = .ok (.new 238, 3) := by decide +kernel
theorem dX8_lotAt_23 : decode cX8_lotAt 23 = .ok (.dup, 1) := by decide +kernel
theorem dX8_lotAt_24 : decode cX8_lotAt 24 = .ok (.ldc 243, 2) := by decide +kernel
theorem dX8_lotAt_26 : decode cX8_lotAt 26 = .ok (.invokespecial 242, 3) := by decide +kernel
theorem dX8_lotAt_29 : decode cX8_lotAt 29 = .ok (.athrow, 1) := by decide +kernel
theorem dX8_lotAt_30 : decode cX8_lotAt 30 = .ok (.aload_n 2, 1) := by decide +kernel
theorem dX8_lotAt_31 : decode cX8_lotAt 31 = .ok (.areturn, 1) := by decide +kernel
theorem dX8_coneAt_0 : decode cX8_coneAt 0 = .ok (.iload_n 1, 1) := by decide +kernel
theorem dX8_coneAt_1 : decode cX8_coneAt 1 = .ok (.aload_n 0, 1) := by decide +kernel
theorem dX8_coneAt_2 : decode cX8_coneAt 2 = .ok (.getfield 24, 3) := by decide +kernel
theorem dX8_coneAt_5 : decode cX8_coneAt 5 = .ok (.arraylength, 1) := by decide +kernel
theorem dX8_coneAt_6 : decode cX8_coneAt 6 = .ok (.invokestatic 183, 3) := by decide +kernel
theorem dX8_coneAt_9 : decode cX8_coneAt 9 = .ok (.aload_n 0, 1) := by decide +kernel
theorem dX8_coneAt_10 : decode cX8_coneAt 10 = .ok (.getfield 24, 3) := by decide +kernel
theorem dX8_coneAt_13 : decode cX8_coneAt 13 = .ok (.iload_n 1, 1) := by decide +kernel
theorem dX8_coneAt_14 : decode cX8_coneAt 14 = .ok (.aaload, 1) := by decide +kernel
theorem dX8_coneAt_15 : decode cX8_coneAt 15 = .ok (.astore_n 2, 1) := by decide +kernel
theorem dX8_coneAt_16 : decode cX8_coneAt 16 = .ok (.aload_n 2, 1) := by decide +kernel
theorem dX8_coneAt_17 : decode cX8_coneAt 17 = .ok (.ifnonnull 13, 3) := by decide +kernel
theorem dX8_coneAt_20 : decode cX8_coneAt 20 = .ok (.new 238, 3) := by decide +kernel
theorem dX8_coneAt_23 : decode cX8_coneAt 23 = .ok (.dup, 1) := by decide +kernel
theorem dX8_coneAt_24 : decode cX8_coneAt 24 = .ok (.ldc 245, 2) := by decide +kernel
theorem dX8_coneAt_26 : decode cX8_coneAt 26 = .ok (.invokespecial 242, 3) := by decide +kernel
theorem dX8_coneAt_29 : decode cX8_coneAt 29 = .ok (.athrow, 1) := by decide +kernel
theorem dX8_coneAt_30 : decode cX8_coneAt 30 = .ok (.aload_n 2, 1) := by decide +kernel
theorem dX8_coneAt_31 : decode cX8_coneAt 31 = .ok (.areturn, 1) := by decide +kernel
theorem dX8_handAt_0 : decode cX8_handAt 0 = .ok (.iload_n 1, 1) := by decide +kernel
theorem dX8_handAt_1 : decode cX8_handAt 1 = .ok (.aload_n 0, 1) := by decide +kernel
theorem dX8_handAt_2 : decode cX8_handAt 2 = .ok (.getfield 30, 3) := by decide +kernel
theorem dX8_handAt_5 : decode cX8_handAt 5 = .ok (.arraylength, 1) := by decide +kernel
theorem dX8_handAt_6 : decode cX8_handAt 6 = .ok (.invokestatic 183, 3) := by decide +kernel
theorem dX8_handAt_9 : decode cX8_handAt 9 = .ok (.aload_n 0, 1) := by decide +kernel
theorem dX8_handAt_10 : decode cX8_handAt 10 = .ok (.getfield 30, 3) := by decide +kernel
theorem dX8_handAt_13 : decode cX8_handAt 13 = .ok (.iload_n 1, 1) := by decide +kernel
theorem dX8_handAt_14 : decode cX8_handAt 14 = .ok (.aaload, 1) := by decide +kernel
theorem dX8_handAt_15 : decode cX8_handAt 15 = .ok (.astore_n 2, 1) := by decide +kernel
theorem dX8_handAt_16 : decode cX8_handAt 16 = .ok (.aload_n 2, 1) := by decide +kernel
theorem dX8_handAt_17 : decode cX8_handAt 17 = .ok (.ifnonnull 13, 3) := by decide +kernel
theorem dX8_handAt_20 : decode cX8_handAt 20 = .ok (.new 238, 3) := by decide +kernel
theorem dX8_handAt_23 : decode cX8_handAt 23 = .ok (.dup, 1) := by decide +kernel
theorem dX8_handAt_24 : decode cX8_handAt 24 = .ok (.ldc 247, 2) := by decide +kernel
theorem dX8_handAt_26 : decode cX8_handAt 26 = .ok (.invokespecial 242, 3) := by decide +kernel
theorem dX8_handAt_29 : decode cX8_handAt 29 = .ok (.athrow, 1) := by decide +kernel
theorem dX8_handAt_30 : decode cX8_handAt 30 = .ok (.aload_n 2, 1) := by decide +kernel
theorem dX8_handAt_31 : decode cX8_handAt 31 = .ok (.areturn, 1) := by decide +kernel
theorem dX8_blockAt_0 : decode cX8_blockAt 0 = .ok (.iload_n 1, 1) := by decide +kernel
theorem dX8_blockAt_1 : decode cX8_blockAt 1 = .ok (.aload_n 0, 1) := by decide +kernel
theorem dX8_blockAt_2 : decode cX8_blockAt 2 = .ok (.getfield 36, 3) := by decide +kernel
theorem dX8_blockAt_5 : decode cX8_blockAt 5 = .ok (.arraylength, 1) := by decide +kernel
theorem dX8_blockAt_6 : decode cX8_blockAt 6 = .ok (.invokestatic 183, 3) := by decide +kernel
theorem dX8_blockAt_9 : decode cX8_blockAt 9 = .ok (.aload_n 0, 1) := by decide +kernel
theorem dX8_blockAt_10 : decode cX8_blockAt 10 = .ok (.getfield 36, 3) := by decide +kernel
theorem dX8_blockAt_13 : decode cX8_blockAt 13 = .ok (.iload_n 1, 1) := by decide +kernel
theorem dX8_blockAt_14 : decode cX8_blockAt 14 = .ok (.aaload, 1) := by decide +kernel
theorem dX8_blockAt_15 : decode cX8_blockAt 15 = .ok (.astore_n 2, 1) := by decide +kernel
theorem dX8_blockAt_16 : decode cX8_blockAt 16 = .ok (.aload_n 2, 1) := by decide +kernel
theorem dX8_blockAt_17 : decode cX8_blockAt 17 = .ok (.ifnonnull 13, 3) := by decide +kernel
theorem dX8_blockAt_20 : decode cX8_blockAt 20 = .ok (.new 238, 3) := by decide +kernel
theorem dX8_blockAt_23 : decode cX8_blockAt 23 = .ok (.dup, 1) := by decide +kernel
theorem dX8_blockAt_24 : decode cX8_blockAt 24 = .ok (.ldc 249, 2) := by decide +kernel
theorem dX8_blockAt_26 : decode cX8_blockAt 26 = .ok (.invokespecial 242, 3) := by decide +kernel
theorem dX8_blockAt_29 : decode cX8_blockAt 29 = .ok (.athrow, 1) := by decide +kernel
theorem dX8_blockAt_30 : decode cX8_blockAt 30 = .ok (.aload_n 2, 1) := by decide +kernel
theorem dX8_blockAt_31 : decode cX8_blockAt 31 = .ok (.areturn, 1) := by decide +kernel
theorem dX8_typedFur_0 : decode cX8_typedFur 0 = .ok (.getstatic 251, 3) := by decide +kernel
theorem dX8_typedFur_3 : decode cX8_typedFur 3 = .ok (.astore_n 1, 1) := by decide +kernel
theorem dX8_typedFur_4 : decode cX8_typedFur 4 = .ok (.aload_n 1, 1) := by decide +kernel
theorem dX8_typedFur_5 : decode cX8_typedFur 5 = .ok (.arraylength, 1) := by decide +kernel
theorem dX8_typedFur_6 : decode cX8_typedFur 6 = .ok (.istore_n 2, 1) := by decide +kernel
theorem dX8_typedFur_7 : decode cX8_typedFur 7 = .ok (.iconst 0, 1) := by decide +kernel
theorem dX8_typedFur_8 : decode cX8_typedFur 8 = .ok (.istore_n 3, 1) := by decide +kernel
theorem dX8_typedFur_9 : decode cX8_typedFur 9 = .ok (.iload_n 3, 1) := by decide +kernel
theorem dX8_typedFur_10 : decode cX8_typedFur 10 = .ok (.iload_n 2, 1) := by decide +kernel
theorem dX8_typedFur_11 : decode cX8_typedFur 11 = .ok (.if_icmp .ge 29, 3) := by decide +kernel
theorem dX8_typedFur_14 : decode cX8_typedFur 14 = .ok (.aload_n 1, 1) := by decide +kernel
theorem dX8_typedFur_15 : decode cX8_typedFur 15 = .ok (.iload_n 3, 1) := by decide +kernel
theorem dX8_typedFur_16 : decode cX8_typedFur 16 = .ok (.aaload, 1) := by decide +kernel
theorem dX8_typedFur_17 : decode cX8_typedFur 17 = .ok (.astore 4, 2) := by decide +kernel
theorem dX8_typedFur_19 : decode cX8_typedFur 19 = .ok (.aload_n 0, 1) := by decide +kernel
theorem dX8_typedFur_20 : decode cX8_typedFur 20 = .ok (.aload 4, 2) := by decide +kernel
theorem dX8_typedFur_22 : decode cX8_typedFur 22 = .ok (.getfield 255, 3) := by decide +kernel
theorem dX8_typedFur_25 : decode cX8_typedFur 25 = .ok (.invokevirtual 259, 3) := by decide +kernel
theorem dX8_typedFur_28 : decode cX8_typedFur 28 = .ok (.ifCond .eq 6, 3) := by decide +kernel
theorem dX8_typedFur_31 : decode cX8_typedFur 31 = .ok (.aload 4, 2) := by decide +kernel
theorem dX8_typedFur_33 : decode cX8_typedFur 33 = .ok (.areturn, 1) := by decide +kernel
theorem dX8_typedFur_34 : decode cX8_typedFur 34 = .ok (.iinc 3 1, 3) := by decide +kernel
theorem dX8_typedFur_37 : decode cX8_typedFur 37 = .ok (.goto (-28), 3) := by decide +kernel
theorem dX8_typedFur_40 : decode cX8_typedFur 40 = .ok (.aconst_null, 1) := by decide +kernel
theorem dX8_typedFur_41 : decode cX8_typedFur 41 = .ok (.areturn, 1) := by decide +kernel
theorem dX8_typedFeather_0 : decode cX8_typedFeather 0 = .ok (.getstatic 263, 3) := by decide +kernel
theorem dX8_typedFeather_3 : decode cX8_typedFeather 3 = .ok (.astore_n 1, 1) := by decide +kernel
theorem dX8_typedFeather_4 : decode cX8_typedFeather 4 = .ok (.aload_n 1, 1) := by decide +kernel
theorem dX8_typedFeather_5 : decode cX8_typedFeather 5 = .ok (.arraylength, 1) := by decide +kernel
theorem dX8_typedFeather_6 : decode cX8_typedFeather 6 = .ok (.istore_n 2, 1) := by decide +kernel
theorem dX8_typedFeather_7 : decode cX8_typedFeather 7 = .ok (.iconst 0, 1) := by decide +kernel
theorem dX8_typedFeather_8 : decode cX8_typedFeather 8 = .ok (.istore_n 3, 1) := by decide +kernel
theorem dX8_typedFeather_9 : decode cX8_typedFeather 9 = .ok (.iload_n 3, 1) := by decide +kernel
theorem dX8_typedFeather_10 : decode cX8_typedFeather 10 = .ok (.iload_n 2, 1) := by decide +kernel
theorem dX8_typedFeather_11 : decode cX8_typedFeather 11 = .ok (.if_icmp .ge 29, 3) := by decide +kernel
theorem dX8_typedFeather_14 : decode cX8_typedFeather 14 = .ok (.aload_n 1, 1) := by decide +kernel
theorem dX8_typedFeather_15 : decode cX8_typedFeather 15 = .ok (.iload_n 3, 1) := by decide +kernel
theorem dX8_typedFeather_16 : decode cX8_typedFeather 16 = .ok (.aaload, 1) := by decide +kernel
theorem dX8_typedFeather_17 : decode cX8_typedFeather 17 = .ok (.astore 4, 2) := by decide +kernel
theorem dX8_typedFeather_19 : decode cX8_typedFeather 19 = .ok (.aload_n 0, 1) := by decide +kernel
theorem dX8_typedFeather_20 : decode cX8_typedFeather 20 = .ok (.aload 4, 2) := by decide +kernel
theorem dX8_typedFeather_22 : decode cX8_typedFeather 22 = .ok (.getfield 267, 3) := by decide +kernel
theorem dX8_typedFeather_25 : decode cX8_typedFeather 25 = .ok (.invokevirtual 259, 3) := by decide +kernel
theorem dX8_typedFeather_28 : decode cX8_typedFeather 28 = .ok (.ifCond .eq 6, 3) := by decide +kernel
theorem dX8_typedFeather_31 : decode cX8_typedFeather 31 = .ok (.aload 4, 2) := by decide +kernel
theorem dX8_typedFeather_33 : decode cX8_typedFeather 33 = .ok (.areturn, 1) := by decide +kernel
theorem dX8_typedFeather_34 : decode cX8_typedFeather 34 = .ok (.iinc 3 1, 3) := by decide +kernel
theorem dX8_typedFeather_37 : decode cX8_typedFeather 37 = .ok (.goto (-28), 3) := by decide +kernel
theorem dX8_typedFeather_40 : decode cX8_typedFeather 40 = .ok (.aconst_null, 1) := by decide +kernel
theorem dX8_typedFeather_41 : decode cX8_typedFeather 41 = .ok (.areturn, 1) := by decide +kernel
theorem dX8_typedSpiral_0 : decode cX8_typedSpiral 0 = .ok (.getstatic 268, 3) := by decide +kernel
theorem dX8_typedSpiral_3 : decode cX8_typedSpiral 3 = .ok (.astore_n 1, 1) := by decide +kernel
theorem dX8_typedSpiral_4 : decode cX8_typedSpiral 4 = .ok (.aload_n 1, 1) := by decide +kernel
theorem dX8_typedSpiral_5 : decode cX8_typedSpiral 5 = .ok (.arraylength, 1) := by decide +kernel
theorem dX8_typedSpiral_6 : decode cX8_typedSpiral 6 = .ok (.istore_n 2, 1) := by decide +kernel
theorem dX8_typedSpiral_7 : decode cX8_typedSpiral 7 = .ok (.iconst 0, 1) := by decide +kernel
theorem dX8_typedSpiral_8 : decode cX8_typedSpiral 8 = .ok (.istore_n 3, 1) := by decide +kernel
theorem dX8_typedSpiral_9 : decode cX8_typedSpiral 9 = .ok (.iload_n 3, 1) := by decide +kernel
theorem dX8_typedSpiral_10 : decode cX8_typedSpiral 10 = .ok (.iload_n 2, 1) := by decide +kernel
theorem dX8_typedSpiral_11 : decode cX8_typedSpiral 11 = .ok (.if_icmp .ge 29, 3) := by decide +kernel
theorem dX8_typedSpiral_14 : decode cX8_typedSpiral 14 = .ok (.aload_n 1, 1) := by decide +kernel
theorem dX8_typedSpiral_15 : decode cX8_typedSpiral 15 = .ok (.iload_n 3, 1) := by decide +kernel
theorem dX8_typedSpiral_16 : decode cX8_typedSpiral 16 = .ok (.aaload, 1) := by decide +kernel
theorem dX8_typedSpiral_17 : decode cX8_typedSpiral 17 = .ok (.astore 4, 2) := by decide +kernel
theorem dX8_typedSpiral_19 : decode cX8_typedSpiral 19 = .ok (.aload_n 0, 1) := by decide +kernel
theorem dX8_typedSpiral_20 : decode cX8_typedSpiral 20 = .ok (.aload 4, 2) := by decide +kernel
theorem dX8_typedSpiral_22 : decode cX8_typedSpiral 22 = .ok (.getfield 272, 3) := by decide +kernel
theorem dX8_typedSpiral_25 : decode cX8_typedSpiral 25 = .ok (.invokevirtual 259, 3) := by decide +kernel
theorem dX8_typedSpiral_28 : decode cX8_typedSpiral 28 = .ok (.ifCond .eq 6, 3) := by decide +kernel
theorem dX8_typedSpiral_31 : decode cX8_typedSpiral 31 = .ok (.aload 4, 2) := by decide +kernel
theorem dX8_typedSpiral_33 : decode cX8_typedSpiral 33 = .ok (.areturn, 1) := by decide +kernel
theorem dX8_typedSpiral_34 : decode cX8_typedSpiral 34 = .ok (.iinc 3 1, 3) := by decide +kernel
theorem dX8_typedSpiral_37 : decode cX8_typedSpiral 37 = .ok (.goto (-28), 3) := by decide +kernel
theorem dX8_typedSpiral_40 : decode cX8_typedSpiral 40 = .ok (.aconst_null, 1) := by decide +kernel
theorem dX8_typedSpiral_41 : decode cX8_typedSpiral 41 = .ok (.areturn, 1) := by decide +kernel
theorem dX8_isTyped_0 : decode cX8_isTyped 0 = .ok (.aload_n 0, 1) := by decide +kernel
theorem dX8_isTyped_1 : decode cX8_isTyped 1 = .ok (.getfield 10, 3) := by decide +kernel
theorem dX8_isTyped_4 : decode cX8_isTyped 4 = .ok (.invokevirtual 67, 3) := by decide +kernel
theorem dX8_isTyped_7 : decode cX8_isTyped 7 = .ok (.aload_n 1, 1) := by decide +kernel
theorem dX8_isTyped_8 : decode cX8_isTyped 8 = .ok (.invokevirtual 273, 3) := by decide +kernel
theorem dX8_isTyped_11 : decode cX8_isTyped 11 = .ok (.if_icmp .eq 5, 3) := by decide +kernel
theorem dX8_isTyped_14 : decode cX8_isTyped 14 = .ok (.iconst 0, 1) := by decide +kernel
theorem dX8_isTyped_15 : decode cX8_isTyped 15 = .ok (.ireturn, 1) := by decide +kernel
theorem dX8_isTyped_16 : decode cX8_isTyped 16 = .ok (.iconst 0, 1) := by decide +kernel
theorem dX8_isTyped_17 : decode cX8_isTyped 17 = .ok (.istore_n 2, 1) := by decide +kernel
theorem dX8_isTyped_18 : decode cX8_isTyped 18 = .ok (.iload_n 2, 1) := by decide +kernel
theorem dX8_isTyped_19 : decode cX8_isTyped 19 = .ok (.aload_n 1, 1) := by decide +kernel
theorem dX8_isTyped_20 : decode cX8_isTyped 20 = .ok (.invokevirtual 273, 3) := by decide +kernel
theorem dX8_isTyped_23 : decode cX8_isTyped 23 = .ok (.if_icmp .ge 27, 3) := by decide +kernel
theorem dX8_isTyped_26 : decode cX8_isTyped 26 = .ok (.aload_n 0, 1) := by decide +kernel
theorem dX8_isTyped_27 : decode cX8_isTyped 27 = .ok (.getfield 10, 3) := by decide +kernel
theorem dX8_isTyped_30 : decode cX8_isTyped 30 = .ok (.iload_n 2, 1) := by decide +kernel
theorem dX8_isTyped_31 : decode cX8_isTyped 31 = .ok (.invokevirtual 276, 3) := by decide +kernel
theorem dX8_isTyped_34 : decode cX8_isTyped 34 = .ok (.aload_n 1, 1) := by decide +kernel
theorem dX8_isTyped_35 : decode cX8_isTyped 35 = .ok (.iload_n 2, 1) := by decide +kernel
theorem dX8_isTyped_36 : decode cX8_isTyped 36 = .ok (.invokevirtual 280, 3) := by decide +kernel
theorem dX8_isTyped_39 : decode cX8_isTyped 39 = .ok (.if_icmp .eq 5, 3) := by decide +kernel
theorem dX8_isTyped_42 : decode cX8_isTyped 42 = .ok (.iconst 0, 1) := by decide +kernel
theorem dX8_isTyped_43 : decode cX8_isTyped 43 = .ok (.ireturn, 1) := by decide +kernel
theorem dX8_isTyped_44 : decode cX8_isTyped 44 = .ok (.iinc 2 1, 3) := by decide +kernel
theorem dX8_isTyped_47 : decode cX8_isTyped 47 = .ok (.goto (-29), 3) := by decide +kernel
theorem dX8_isTyped_50 : decode cX8_isTyped 50 = .ok (.iconst 1, 1) := by decide +kernel
theorem dX8_isTyped_51 : decode cX8_isTyped 51 = .ok (.ireturn, 1) := by decide +kernel
theorem dX8_clearTyped_0 : decode cX8_clearTyped 0 = .ok (.aload_n 0, 1) := by decide +kernel
theorem dX8_clearTyped_1 : decode cX8_clearTyped 1 = .ok (.getfield 10, 3) := by decide +kernel
theorem dX8_clearTyped_4 : decode cX8_clearTyped 4 = .ok (.iconst 0, 1) := by decide +kernel
theorem dX8_clearTyped_5 : decode cX8_clearTyped 5 = .ok (.invokevirtual 281, 3) := by decide +kernel
theorem dX8_clearTyped_8 : decode cX8_clearTyped 8 = .ok (.return_, 1) := by decide +kernel
theorem dX8_year_0 : decode cX8_year 0 = .ok (.aload_n 0, 1) := by decide +kernel
theorem dX8_year_1 : decode cX8_year 1 = .ok (.getfield 60, 3) := by decide +kernel
theorem dX8_year_4 : decode cX8_year 4 = .ok (.bipush 10, 2) := by decide +kernel
theorem dX8_year_6 : decode cX8_year 6 = .ok (.idiv, 1) := by decide +kernel
theorem dX8_year_7 : decode cX8_year 7 = .ok (.ireturn, 1) := by decide +kernel
theorem dX8_bitsOf_0 : decode cX8_bitsOf 0 = .ok (.fload_n 0, 1) := by decide +kernel
theorem dX8_bitsOf_1 : decode cX8_bitsOf 1 = .ok (.fconst 0, 1) := by decide +kernel
theorem dX8_bitsOf_2 : decode cX8_bitsOf 2 = .ok (.fcmp .l, 1) := by decide +kernel
theorem dX8_bitsOf_3 : decode cX8_bitsOf 3 = .ok (.ifCond .gt 5, 3) := by decide +kernel
theorem dX8_bitsOf_6 : decode cX8_bitsOf 6 = .ok (.iconst 0, 1) := by decide +kernel
theorem dX8_bitsOf_7 : decode cX8_bitsOf 7 = .ok (.ireturn, 1) := by decide +kernel
theorem dX8_bitsOf_8 : decode cX8_bitsOf 8 = .ok (.fload_n 0, 1) := by decide +kernel
theorem dX8_bitsOf_9 : decode cX8_bitsOf 9 = .ok (.fstore_n 1, 1) := by decide +kernel
theorem dX8_bitsOf_10 : decode cX8_bitsOf 10 = .ok (.iconst 0, 1) := by decide +kernel
theorem dX8_bitsOf_11 : decode cX8_bitsOf 11 = .ok (.istore_n 2, 1) := by decide +kernel
theorem dX8_bitsOf_12 : decode cX8_bitsOf 12 = .ok (.iconst 0, 1) := by decide +kernel
theorem dX8_bitsOf_13 : decode cX8_bitsOf 13 = .ok (.istore_n 3, 1) := by decide +kernel
theorem dX8_bitsOf_14 : decode cX8_bitsOf 14 = .ok (.iload_n 3, 1) := by decide +kernel
theorem dX8_bitsOf_15 : decode cX8_bitsOf 15 = .ok (.sipush 128, 3) := by decide +kernel
theorem dX8_bitsOf_18 : decode cX8_bitsOf 18 = .ok (.if_icmp .ge 22, 3) := by decide +kernel
theorem dX8_bitsOf_21 : decode cX8_bitsOf 21 = .ok (.fload_n 1, 1) := by decide +kernel
theorem dX8_bitsOf_22 : decode cX8_bitsOf 22 = .ok (.fconst 2, 1) := by decide +kernel
theorem dX8_bitsOf_23 : decode cX8_bitsOf 23 = .ok (.fcmp .l, 1) := by decide +kernel
theorem dX8_bitsOf_24 : decode cX8_bitsOf 24 = .ok (.ifCond .lt 16, 3) := by decide +kernel
theorem dX8_bitsOf_27 : decode cX8_bitsOf 27 = .ok (.fload_n 1, 1) := by decide +kernel
theorem dX8_bitsOf_28 : decode cX8_bitsOf 28 = .ok (.fconst 2, 1) := by decide +kernel
theorem dX8_bitsOf_29 : decode cX8_bitsOf 29 = .ok (.fdiv, 1) := by decide +kernel
theorem dX8_bitsOf_30 : decode cX8_bitsOf 30 = .ok (.fstore_n 1, 1) := by decide +kernel
theorem dX8_bitsOf_31 : decode cX8_bitsOf 31 = .ok (.iinc 2 1, 3) := by decide +kernel
theorem dX8_bitsOf_34 : decode cX8_bitsOf 34 = .ok (.iinc 3 1, 3) := by decide +kernel
theorem dX8_bitsOf_37 : decode cX8_bitsOf 37 = .ok (.goto (-23), 3) := by decide +kernel
theorem dX8_bitsOf_40 : decode cX8_bitsOf 40 = .ok (.iconst 0, 1) := by decide +kernel
theorem dX8_bitsOf_41 : decode cX8_bitsOf 41 = .ok (.istore_n 3, 1) := by decide +kernel
theorem dX8_bitsOf_42 : decode cX8_bitsOf 42 = .ok (.iload_n 3, 1) := by decide +kernel
theorem dX8_bitsOf_43 : decode cX8_bitsOf 43 = .ok (.sipush 128, 3) := by decide +kernel
theorem dX8_bitsOf_46 : decode cX8_bitsOf 46 = .ok (.if_icmp .ge 22, 3) := by decide +kernel
theorem dX8_bitsOf_49 : decode cX8_bitsOf 49 = .ok (.fload_n 1, 1) := by decide +kernel
theorem dX8_bitsOf_50 : decode cX8_bitsOf 50 = .ok (.fconst 1, 1) := by decide +kernel
theorem dX8_bitsOf_51 : decode cX8_bitsOf 51 = .ok (.fcmp .g, 1) := by decide +kernel
theorem dX8_bitsOf_52 : decode cX8_bitsOf 52 = .ok (.ifCond .ge 16, 3) := by decide +kernel
theorem dX8_bitsOf_55 : decode cX8_bitsOf 55 = .ok (.fload_n 1, 1) := by decide +kernel
theorem dX8_bitsOf_56 : decode cX8_bitsOf 56 = .ok (.fconst 2, 1) := by decide +kernel
theorem dX8_bitsOf_57 : decode cX8_bitsOf 57 = .ok (.fmul, 1) := by decide +kernel
theorem dX8_bitsOf_58 : decode cX8_bitsOf 58 = .ok (.fstore_n 1, 1) := by decide +kernel
theorem dX8_bitsOf_59 : decode cX8_bitsOf 59 = .ok (.iinc 2 (-1), 3) := by decide +kernel
theorem dX8_bitsOf_62 : decode cX8_bitsOf 62 = .ok (.iinc 3 1, 3) := by decide +kernel
theorem dX8_bitsOf_65 : decode cX8_bitsOf 65 = .ok (.goto (-23), 3) := by decide +kernel
theorem dX8_bitsOf_68 : decode cX8_bitsOf 68 = .ok (.iload_n 2, 1) := by decide +kernel
theorem dX8_bitsOf_69 : decode cX8_bitsOf 69 = .ok (.bipush 127, 2) := by decide +kernel
theorem dX8_bitsOf_71 : decode cX8_bitsOf 71 = .ok (.iadd, 1) := by decide +kernel
theorem dX8_bitsOf_72 : decode cX8_bitsOf 72 = .ok (.bipush 23, 2) := by decide +kernel
theorem dX8_bitsOf_74 : decode cX8_bitsOf 74 = .ok (.ishl, 1) := by decide +kernel
theorem dX8_bitsOf_75 : decode cX8_bitsOf 75 = .ok (.fload_n 1, 1) := by decide +kernel
theorem dX8_bitsOf_76 : decode cX8_bitsOf 76 = .ok (.fconst 1, 1) := by decide +kernel
theorem dX8_bitsOf_77 : decode cX8_bitsOf 77 = .ok (.fsub, 1) := by decide +kernel
theorem dX8_bitsOf_78 : decode cX8_bitsOf 78 = .ok (.ldc_w 284, 3) := by decide +kernel
theorem dX8_bitsOf_81 : decode cX8_bitsOf 81 = .ok (.fmul, 1) := by decide +kernel
theorem dX8_bitsOf_82 : decode cX8_bitsOf 82 = .ok (.f2i, 1) := by decide +kernel
theorem dX8_bitsOf_83 : decode cX8_bitsOf 83 = .ok (.ior, 1) := by decide +kernel
theorem dX8_bitsOf_84 : decode cX8_bitsOf 84 = .ok (.ireturn, 1) := by decide +kernel
theorem dJ5_init_d00df_0 : decode cJ5_init_d00df 0 = .ok (.aload_n 0, 1) := by decide +kernel
theorem dJ5_init_d00df_1 : decode cJ5_init_d00df 1 = .ok (.invokespecial 3, 3) := by decide +kernel
theorem dJ5_init_d00df_4 : decode cJ5_init_d00df 4 = .ok (.getstatic 18, 3) := by decide +kernel
theorem dJ5_init_d00df_7 : decode cJ5_init_d00df 7 = .ok (.ifCond .eq 18, 3) := by decide +kernel
theorem dJ5_init_d00df_10 : decode cJ5_init_d00df 10 = .ok (.aload_n 0, 1) := by decide +kernel
theorem dJ5_init_d00df_11 : decode cJ5_init_d00df 11 = .ok (.iload_n 1, 1) := by decide +kernel
theorem dJ5_init_d00df_12 : decode cJ5_init_d00df 12 = .ok (.newarray .byte, 2) := by decide +kernel
theorem dJ5_init_d00df_14 : decode cJ5_init_d00df 14 = .ok (.putfield 15, 3) := by decide +kernel
theorem dJ5_init_d00df_17 : decode cJ5_init_d00df 17 = .ok (.aload_n 0, 1) := by decide +kernel
theorem dJ5_init_d00df_18 : decode cJ5_init_d00df 18 = .ok (.iconst 0, 1) := by decide +kernel
theorem dJ5_init_d00df_19 : decode cJ5_init_d00df 19 = .ok (.putfield 22, 3) := by decide +kernel
theorem dJ5_init_d00df_22 : decode cJ5_init_d00df 22 = .ok (.goto 16, 3) := by decide +kernel
theorem dJ5_init_d00df_25 : decode cJ5_init_d00df 25 = .ok (.aload_n 0, 1) := by decide +kernel
theorem dJ5_init_d00df_26 : decode cJ5_init_d00df 26 = .ok (.iload_n 1, 1) := by decide +kernel
theorem dJ5_init_d00df_27 : decode cJ5_init_d00df 27 = .ok (.invokestatic 26, 3) := by decide +kernel
theorem dJ5_init_d00df_30 : decode cJ5_init_d00df 30 = .ok (.putfield 15, 3) := by decide +kernel
theorem dJ5_init_d00df_33 : decode cJ5_init_d00df 33 = .ok (.aload_n 0, 1) := by decide +kernel
theorem dJ5_init_d00df_34 : decode cJ5_init_d00df 34 = .ok (.iconst 1, 1) := by decide +kernel
theorem dJ5_init_d00df_35 : decode cJ5_init_d00df 35 = .ok (.putfield 22, 3) := by decide +kernel
theorem dJ5_init_d00df_38 : decode cJ5_init_d00df 38 = .ok (.return_, 1) := by decide +kernel
theorem dJ5_length_8abf5_0 : decode cJ5_length_8abf5 0 = .ok (.aload_n 0, 1) := by decide +kernel
theorem dJ5_length_8abf5_1 : decode cJ5_length_8abf5 1 = .ok (.getfield 79, 3) := by decide +kernel
theorem dJ5_length_8abf5_4 : decode cJ5_length_8abf5 4 = .ok (.ireturn, 1) := by decide +kernel
theorem dJ5_ensureCapacityInternal_d00df_0 : decode cJ5_ensureCapacityInternal_d00df 0 = .ok (.aload_n 0, 1) := by decide +kernel
theorem dJ5_ensureCapacityInternal_d00df_1 : decode cJ5_ensureCapacityInternal_d00df 1 = .ok (.getfield 15, 3) := by decide +kernel
theorem dJ5_ensureCapacityInternal_d00df_4 : decode cJ5_ensureCapacityInternal_d00df 4 = .ok (.arraylength, 1) := by decide +kernel
theorem dJ5_ensureCapacityInternal_d00df_5 : decode cJ5_ensureCapacityInternal_d00df 5 = .ok (.aload_n 0, 1) := by decide +kernel
theorem dJ5_ensureCapacityInternal_d00df_6 : decode cJ5_ensureCapacityInternal_d00df 6 = .ok (.getfield 22, 3) := by decide +kernel
theorem dJ5_ensureCapacityInternal_d00df_9 : decode cJ5_ensureCapacityInternal_d00df 9 = .ok (.ishr, 1) := by decide +kernel
theorem dJ5_ensureCapacityInternal_d00df_10 : decode cJ5_ensureCapacityInternal_d00df 10 = .ok (.istore_n 2, 1) := by decide +kernel
theorem dJ5_ensureCapacityInternal_d00df_11 : decode cJ5_ensureCapacityInternal_d00df 11 = .ok (.iload_n 1, 1) := by decide +kernel
theorem dJ5_ensureCapacityInternal_d00df_12 : decode cJ5_ensureCapacityInternal_d00df 12 = .ok (.iload_n 2, 1) := by decide +kernel
theorem dJ5_ensureCapacityInternal_d00df_13 : decode cJ5_ensureCapacityInternal_d00df 13 = .ok (.isub, 1) := by decide +kernel
theorem dJ5_ensureCapacityInternal_d00df_14 : decode cJ5_ensureCapacityInternal_d00df 14 = .ok (.ifCond .le 24, 3) := by decide +kernel
theorem dJ5_ensureCapacityInternal_d00df_17 : decode cJ5_ensureCapacityInternal_d00df 17 = .ok (.aload_n 0, 1) := by decide +kernel
theorem dJ5_ensureCapacityInternal_d00df_18 : decode cJ5_ensureCapacityInternal_d00df 18 = .ok (.aload_n 0, 1) := by decide +kernel
theorem dJ5_ensureCapacityInternal_d00df_19 : decode cJ5_ensureCapacityInternal_d00df 19 = .ok (.getfield 15, 3) := by decide +kernel
theorem dJ5_ensureCapacityInternal_d00df_22 : decode cJ5_ensureCapacityInternal_d00df 22 = .ok (.aload_n 0, 1) := by decide +kernel
theorem dJ5_ensureCapacityInternal_d00df_23 : decode cJ5_ensureCapacityInternal_d00df 23 = .ok (.iload_n 1, 1) := by decide +kernel
theorem dJ5_ensureCapacityInternal_d00df_24 : decode cJ5_ensureCapacityInternal_d00df 24 = .ok (.invokevirtual 104, 3) := by decide +kernel
theorem dJ5_ensureCapacityInternal_d00df_27 : decode cJ5_ensureCapacityInternal_d00df 27 = .ok (.aload_n 0, 1) := by decide +kernel
theorem dJ5_ensureCapacityInternal_d00df_28 : decode cJ5_ensureCapacityInternal_d00df 28 = .ok (.getfield 22, 3) := by decide +kernel
theorem dJ5_ensureCapacityInternal_d00df_31 : decode cJ5_ensureCapacityInternal_d00df 31 = .ok (.ishl, 1) := by decide +kernel
theorem dJ5_ensureCapacityInternal_d00df_32 : decode cJ5_ensureCapacityInternal_d00df 32 = .ok (.invokestatic 108, 3) := by decide +kernel
theorem dJ5_ensureCapacityInternal_d00df_35 : decode cJ5_ensureCapacityInternal_d00df 35 = .ok (.putfield 15, 3) := by decide +kernel
theorem dJ5_ensureCapacityInternal_d00df_38 : decode cJ5_ensureCapacityInternal_d00df 38 = .ok (.return_, 1) := by decide +kernel
theorem dJ5_setLength_d00df_0 : decode cJ5_setLength_d00df 0 = .ok (.iload_n 1, 1) := by decide +kernel
theorem dJ5_setLength_d00df_1 : decode cJ5_setLength_d00df 1 = .ok (.ifCond .ge 12, 3) := by decide +kernel
theorem dJ5_setLength_d00df_4 : decode cJ5_setLength_d00df 4 = .ok (.new 129, 3) := by decide +kernel
theorem dJ5_setLength_d00df_7 : decode cJ5_setLength_d00df 7 = .ok (.dup, 1) := by decide +kernel
theorem dJ5_setLength_d00df_8 : decode cJ5_setLength_d00df 8 = .ok (.iload_n 1, 1) := by decide +kernel
theorem dJ5_setLength_d00df_9 : decode cJ5_setLength_d00df 9 = .ok (.invokespecial 131, 3) := by decide +kernel
theorem dJ5_setLength_d00df_12 : decode cJ5_setLength_d00df 12 = .ok (.athrow, 1) := by decide +kernel
theorem dJ5_setLength_d00df_13 : decode cJ5_setLength_d00df 13 = .ok (.aload_n 0, 1) := by decide +kernel
theorem dJ5_setLength_d00df_14 : decode cJ5_setLength_d00df 14 = .ok (.iload_n 1, 1) := by decide +kernel
theorem dJ5_setLength_d00df_15 : decode cJ5_setLength_d00df 15 = .ok (.invokevirtual 100, 3) := by decide +kernel
theorem dJ5_setLength_d00df_18 : decode cJ5_setLength_d00df 18 = .ok (.aload_n 0, 1) := by decide +kernel
theorem dJ5_setLength_d00df_19 : decode cJ5_setLength_d00df 19 = .ok (.getfield 79, 3) := by decide +kernel
theorem dJ5_setLength_d00df_22 : decode cJ5_setLength_d00df 22 = .ok (.iload_n 1, 1) := by decide +kernel
theorem dJ5_setLength_d00df_23 : decode cJ5_setLength_d00df 23 = .ok (.if_icmp .ge 40, 3) := by decide +kernel
theorem dJ5_setLength_d00df_26 : decode cJ5_setLength_d00df 26 = .ok (.aload_n 0, 1) := by decide +kernel
theorem dJ5_setLength_d00df_27 : decode cJ5_setLength_d00df 27 = .ok (.invokevirtual 83, 3) := by decide +kernel
theorem dJ5_setLength_d00df_30 : decode cJ5_setLength_d00df 30 = .ok (.ifCond .eq 18, 3) := by decide +kernel
theorem dJ5_setLength_d00df_33 : decode cJ5_setLength_d00df 33 = .ok (.aload_n 0, 1) := by decide +kernel
theorem dJ5_setLength_d00df_34 : decode cJ5_setLength_d00df 34 = .ok (.getfield 15, 3) := by decide +kernel
theorem dJ5_setLength_d00df_37 : decode cJ5_setLength_d00df 37 = .ok (.aload_n 0, 1) := by decide +kernel
theorem dJ5_setLength_d00df_38 : decode cJ5_setLength_d00df 38 = .ok (.getfield 79, 3) := by decide +kernel
theorem dJ5_setLength_d00df_41 : decode cJ5_setLength_d00df 41 = .ok (.iload_n 1, 1) := by decide +kernel
theorem dJ5_setLength_d00df_42 : decode cJ5_setLength_d00df 42 = .ok (.invokestatic 133, 3) := by decide +kernel
theorem dJ5_setLength_d00df_45 : decode cJ5_setLength_d00df 45 = .ok (.goto 31, 3) := by decide +kernel
theorem dJ5_setLength_d00df_48 : decode cJ5_setLength_d00df 48 = .ok (.aload_n 0, 1) := by decide +kernel
theorem dJ5_setLength_d00df_49 : decode cJ5_setLength_d00df 49 = .ok (.getfield 15, 3) := by decide +kernel
theorem dJ5_setLength_d00df_52 : decode cJ5_setLength_d00df 52 = .ok (.aload_n 0, 1) := by decide +kernel
theorem dJ5_setLength_d00df_53 : decode cJ5_setLength_d00df 53 = .ok (.getfield 79, 3) := by decide +kernel
theorem dJ5_setLength_d00df_56 : decode cJ5_setLength_d00df 56 = .ok (.iload_n 1, 1) := by decide +kernel
theorem dJ5_setLength_d00df_57 : decode cJ5_setLength_d00df 57 = .ok (.invokestatic 137, 3) := by decide +kernel
theorem dJ5_setLength_d00df_60 : decode cJ5_setLength_d00df 60 = .ok (.goto 16, 3) := by decide +kernel
theorem dJ5_setLength_d00df_63 : decode cJ5_setLength_d00df 63 = .ok (.aload_n 0, 1) := by decide +kernel
theorem dJ5_setLength_d00df_64 : decode cJ5_setLength_d00df 64 = .ok (.getfield 79, 3) := by decide +kernel
theorem dJ5_setLength_d00df_67 : decode cJ5_setLength_d00df 67 = .ok (.iload_n 1, 1) := by decide +kernel
theorem dJ5_setLength_d00df_68 : decode cJ5_setLength_d00df 68 = .ok (.if_icmp .le 8, 3) := by decide +kernel
theorem dJ5_setLength_d00df_71 : decode cJ5_setLength_d00df 71 = .ok (.aload_n 0, 1) := by decide +kernel
theorem dJ5_setLength_d00df_72 : decode cJ5_setLength_d00df 72 = .ok (.iconst 1, 1) := by decide +kernel
theorem dJ5_setLength_d00df_73 : decode cJ5_setLength_d00df 73 = .ok (.putfield 73, 3) := by decide +kernel
theorem dJ5_setLength_d00df_76 : decode cJ5_setLength_d00df 76 = .ok (.aload_n 0, 1) := by decide +kernel
theorem dJ5_setLength_d00df_77 : decode cJ5_setLength_d00df 77 = .ok (.iload_n 1, 1) := by decide +kernel
theorem dJ5_setLength_d00df_78 : decode cJ5_setLength_d00df 78 = .ok (.putfield 79, 3) := by decide +kernel
theorem dJ5_setLength_d00df_81 : decode cJ5_setLength_d00df 81 = .ok (.return_, 1) := by decide +kernel
theorem dJ5_charAt_5068e_0 : decode cJ5_charAt_5068e 0 = .ok (.aload_n 0, 1) := by decide +kernel
theorem dJ5_charAt_5068e_1 : decode cJ5_charAt_5068e 1 = .ok (.getfield 22, 3) := by decide +kernel
theorem dJ5_charAt_5068e_4 : decode cJ5_charAt_5068e 4 = .ok (.istore_n 2, 1) := by decide +kernel
theorem dJ5_charAt_5068e_5 : decode cJ5_charAt_5068e 5 = .ok (.aload_n 0, 1) := by decide +kernel
theorem dJ5_charAt_5068e_6 : decode cJ5_charAt_5068e 6 = .ok (.getfield 15, 3) := by decide +kernel
theorem dJ5_charAt_5068e_9 : decode cJ5_charAt_5068e 9 = .ok (.astore_n 3, 1) := by decide +kernel
theorem dJ5_charAt_5068e_10 : decode cJ5_charAt_5068e 10 = .ok (.aload_n 0, 1) := by decide +kernel
theorem dJ5_charAt_5068e_11 : decode cJ5_charAt_5068e 11 = .ok (.getfield 79, 3) := by decide +kernel
theorem dJ5_charAt_5068e_14 : decode cJ5_charAt_5068e 14 = .ok (.aload_n 3, 1) := by decide +kernel
theorem dJ5_charAt_5068e_15 : decode cJ5_charAt_5068e 15 = .ok (.arraylength, 1) := by decide +kernel
theorem dJ5_charAt_5068e_16 : decode cJ5_charAt_5068e 16 = .ok (.iload_n 2, 1) := by decide +kernel
theorem dJ5_charAt_5068e_17 : decode cJ5_charAt_5068e 17 = .ok (.ishr, 1) := by decide +kernel
theorem dJ5_charAt_5068e_18 : decode cJ5_charAt_5068e 18 = .ok (.invokestatic 138, 3) := by decide +kernel
theorem dJ5_charAt_5068e_21 : decode cJ5_charAt_5068e 21 = .ok (.istore 4, 2) := by decide +kernel
theorem dJ5_charAt_5068e_23 : decode cJ5_charAt_5068e 23 = .ok (.iload_n 1, 1) := by decide +kernel
theorem dJ5_charAt_5068e_24 : decode cJ5_charAt_5068e 24 = .ok (.iload 4, 2) := by decide +kernel
theorem dJ5_charAt_5068e_26 : decode cJ5_charAt_5068e 26 = .ok (.invokestatic 144, 3) := by decide +kernel
theorem dJ5_charAt_5068e_29 : decode cJ5_charAt_5068e 29 = .ok (.iload_n 2, 1) := by decide +kernel
theorem dJ5_charAt_5068e_30 : decode cJ5_charAt_5068e 30 = .ok (.ifCond .ne 12, 3) := by decide +kernel
theorem dJ5_charAt_5068e_33 : decode cJ5_charAt_5068e 33 = .ok (.aload_n 3, 1) := by decide +kernel
theorem dJ5_charAt_5068e_34 : decode cJ5_charAt_5068e 34 = .ok (.iload_n 1, 1) := by decide +kernel
theorem dJ5_charAt_5068e_35 : decode cJ5_charAt_5068e 35 = .ok (.baload, 1) := by decide +kernel
theorem dJ5_charAt_5068e_36 : decode cJ5_charAt_5068e 36 = .ok (.sipush 255, 3) := by decide +kernel
theorem dJ5_charAt_5068e_39 : decode cJ5_charAt_5068e 39 = .ok (.iand, 1) := by decide +kernel
theorem dJ5_charAt_5068e_40 : decode cJ5_charAt_5068e 40 = .ok (.i2c, 1) := by decide +kernel
theorem dJ5_charAt_5068e_41 : decode cJ5_charAt_5068e 41 = .ok (.ireturn, 1) := by decide +kernel
theorem dJ5_charAt_5068e_42 : decode cJ5_charAt_5068e 42 = .ok (.aload_n 3, 1) := by decide +kernel
theorem dJ5_charAt_5068e_43 : decode cJ5_charAt_5068e 43 = .ok (.iload_n 1, 1) := by decide +kernel
theorem dJ5_charAt_5068e_44 : decode cJ5_charAt_5068e 44 = .ok (.invokestatic 148, 3) := by decide +kernel
theorem dJ5_charAt_5068e_47 : decode cJ5_charAt_5068e 47 = .ok (.ireturn, 1) := by decide +kernel
theorem dJ5_append_3fe6f_0 : decode cJ5_append_3fe6f 0 = .ok (.aload_n 0, 1) := by decide +kernel
theorem dJ5_append_3fe6f_1 : decode cJ5_append_3fe6f 1 = .ok (.aload_n 0, 1) := by decide +kernel
theorem dJ5_append_3fe6f_2 : decode cJ5_append_3fe6f 2 = .ok (.getfield 79, 3) := by decide +kernel
theorem dJ5_append_3fe6f_5 : decode cJ5_append_3fe6f 5 = .ok (.iconst 1, 1) := by decide +kernel
theorem dJ5_append_3fe6f_6 : decode cJ5_append_3fe6f 6 = .ok (.iadd, 1) := by decide +kernel
theorem dJ5_append_3fe6f_7 : decode cJ5_append_3fe6f 7 = .ok (.invokevirtual 100, 3) := by decide +kernel
theorem dJ5_append_3fe6f_10 : decode cJ5_append_3fe6f 10 = .ok (.aload_n 0, 1) := by decide +kernel
theorem dJ5_append_3fe6f_11 : decode cJ5_append_3fe6f 11 = .ok (.invokevirtual 83, 3) := by decide +kernel
theorem dJ5_append_3fe6f_14 : decode cJ5_append_3fe6f 14 = .ok (.ifCond .eq 31, 3) := by decide +kernel
theorem dJ5_append_3fe6f_17 : decode cJ5_append_3fe6f 17 = .ok (.iload_n 1, 1) := by decide +kernel
theorem dJ5_append_3fe6f_18 : decode cJ5_append_3fe6f 18 = .ok (.invokestatic 191, 3) := by decide +kernel
theorem dJ5_append_3fe6f_21 : decode cJ5_append_3fe6f 21 = .ok (.ifCond .eq 24, 3) := by decide +kernel
theorem dJ5_append_3fe6f_24 : decode cJ5_append_3fe6f 24 = .ok (.aload_n 0, 1) := by decide +kernel
theorem dJ5_append_3fe6f_25 : decode cJ5_append_3fe6f 25 = .ok (.getfield 15, 3) := by decide +kernel
theorem dJ5_append_3fe6f_28 : decode cJ5_append_3fe6f 28 = .ok (.aload_n 0, 1) := by decide +kernel
theorem dJ5_append_3fe6f_29 : decode cJ5_append_3fe6f 29 = .ok (.dup, 1) := by decide +kernel
theorem dJ5_append_3fe6f_30 : decode cJ5_append_3fe6f 30 = .ok (.getfield 79, 3) := by decide +kernel
theorem dJ5_append_3fe6f_33 : decode cJ5_append_3fe6f 33 = .ok (.dup_x1, 1) := by decide +kernel
theorem dJ5_append_3fe6f_34 : decode cJ5_append_3fe6f 34 = .ok (.iconst 1, 1) := by decide +kernel
theorem dJ5_append_3fe6f_35 : decode cJ5_append_3fe6f 35 = .ok (.iadd, 1) := by decide +kernel
theorem dJ5_append_3fe6f_36 : decode cJ5_append_3fe6f 36 = .ok (.putfield 79, 3) := by decide +kernel
theorem dJ5_append_3fe6f_39 : decode cJ5_append_3fe6f 39 = .ok (.iload_n 1, 1) := by decide +kernel
theorem dJ5_append_3fe6f_40 : decode cJ5_append_3fe6f 40 = .ok (.i2b, 1) := by decide +kernel
theorem dJ5_append_3fe6f_41 : decode cJ5_append_3fe6f 41 = .ok (.bastore, 1) := by decide +kernel
theorem dJ5_append_3fe6f_42 : decode cJ5_append_3fe6f 42 = .ok (.goto 33, 3) := by decide +kernel
theorem dJ5_append_3fe6f_45 : decode cJ5_append_3fe6f 45 = .ok (.aload_n 0, 1) := by decide +kernel
theorem dJ5_append_3fe6f_46 : decode cJ5_append_3fe6f 46 = .ok (.invokevirtual 83, 3) := by decide +kernel
theorem dJ5_append_3fe6f_49 : decode cJ5_append_3fe6f 49 = .ok (.ifCond .eq 7, 3) := by decide +kernel
theorem dJ5_append_3fe6f_52 : decode cJ5_append_3fe6f 52 = .ok (.aload_n 0, 1) := by decide +kernel
theorem dJ5_append_3fe6f_53 : decode cJ5_append_3fe6f 53 = .ok (.invokevirtual 195, 3) := by decide +kernel
theorem dJ5_append_3fe6f_56 : decode cJ5_append_3fe6f 56 = .ok (.aload_n 0, 1) := by decide +kernel
theorem dJ5_append_3fe6f_57 : decode cJ5_append_3fe6f 57 = .ok (.getfield 15, 3) := by decide +kernel
theorem dJ5_append_3fe6f_60 : decode cJ5_append_3fe6f 60 = .ok (.aload_n 0, 1) := by decide +kernel
theorem dJ5_append_3fe6f_61 : decode cJ5_append_3fe6f 61 = .ok (.dup, 1) := by decide +kernel
theorem dJ5_append_3fe6f_62 : decode cJ5_append_3fe6f 62 = .ok (.getfield 79, 3) := by decide +kernel
theorem dJ5_append_3fe6f_65 : decode cJ5_append_3fe6f 65 = .ok (.dup_x1, 1) := by decide +kernel
theorem dJ5_append_3fe6f_66 : decode cJ5_append_3fe6f 66 = .ok (.iconst 1, 1) := by decide +kernel
theorem dJ5_append_3fe6f_67 : decode cJ5_append_3fe6f 67 = .ok (.iadd, 1) := by decide +kernel
theorem dJ5_append_3fe6f_68 : decode cJ5_append_3fe6f 68 = .ok (.putfield 79, 3) := by decide +kernel
theorem dJ5_append_3fe6f_71 : decode cJ5_append_3fe6f 71 = .ok (.iload_n 1, 1) := by decide +kernel
theorem dJ5_append_3fe6f_72 : decode cJ5_append_3fe6f 72 = .ok (.invokestatic 197, 3) := by decide +kernel
theorem dJ5_append_3fe6f_75 : decode cJ5_append_3fe6f 75 = .ok (.aload_n 0, 1) := by decide +kernel
theorem dJ5_append_3fe6f_76 : decode cJ5_append_3fe6f 76 = .ok (.areturn, 1) := by decide +kernel
theorem dJ5_isLatin1_aae02_0 : decode cJ5_isLatin1_aae02 0 = .ok (.getstatic 18, 3) := by decide +kernel
theorem dJ5_isLatin1_aae02_3 : decode cJ5_isLatin1_aae02 3 = .ok (.ifCond .eq 14, 3) := by decide +kernel
theorem dJ5_isLatin1_aae02_6 : decode cJ5_isLatin1_aae02 6 = .ok (.aload_n 0, 1) := by decide +kernel
theorem dJ5_isLatin1_aae02_7 : decode cJ5_isLatin1_aae02 7 = .ok (.getfield 22, 3) := by decide +kernel
theorem dJ5_isLatin1_aae02_10 : decode cJ5_isLatin1_aae02 10 = .ok (.ifCond .ne 7, 3) := by decide +kernel
theorem dJ5_isLatin1_aae02_13 : decode cJ5_isLatin1_aae02 13 = .ok (.iconst 1, 1) := by decide +kernel
theorem dJ5_isLatin1_aae02_14 : decode cJ5_isLatin1_aae02 14 = .ok (.goto 4, 3) := by decide +kernel
theorem dJ5_isLatin1_aae02_17 : decode cJ5_isLatin1_aae02 17 = .ok (.iconst 0, 1) := by decide +kernel
theorem dJ5_isLatin1_aae02_18 : decode cJ5_isLatin1_aae02 18 = .ok (.ireturn, 1) := by decide +kernel
theorem dJ9_max_7cf53_0 : decode cJ9_max_7cf53 0 = .ok (.iload_n 0, 1) := by decide +kernel
theorem dJ9_max_7cf53_1 : decode cJ9_max_7cf53 1 = .ok (.iload_n 1, 1) := by decide +kernel
theorem dJ9_max_7cf53_2 : decode cJ9_max_7cf53 2 = .ok (.if_icmp .lt 7, 3) := by decide +kernel
theorem dJ9_max_7cf53_5 : decode cJ9_max_7cf53 5 = .ok (.iload_n 0, 1) := by decide +kernel
theorem dJ9_max_7cf53_6 : decode cJ9_max_7cf53 6 = .ok (.goto 4, 3) := by decide +kernel
theorem dJ9_max_7cf53_9 : decode cJ9_max_7cf53 9 = .ok (.iload_n 1, 1) := by decide +kernel
theorem dJ9_max_7cf53_10 : decode cJ9_max_7cf53 10 = .ok (.ireturn, 1) := by decide +kernel
theorem dJ9_min_7cf53_0 : decode cJ9_min_7cf53 0 = .ok (.iload_n 0, 1) := by decide +kernel
theorem dJ9_min_7cf53_1 : decode cJ9_min_7cf53 1 = .ok (.iload_n 1, 1) := by decide +kernel
theorem dJ9_min_7cf53_2 : decode cJ9_min_7cf53 2 = .ok (.if_icmp .gt 7, 3) := by decide +kernel
theorem dJ9_min_7cf53_5 : decode cJ9_min_7cf53 5 = .ok (.iload_n 0, 1) := by decide +kernel
theorem dJ9_min_7cf53_6 : decode cJ9_min_7cf53 6 = .ok (.goto 4, 3) := by decide +kernel
theorem dJ9_min_7cf53_9 : decode cJ9_min_7cf53 9 = .ok (.iload_n 1, 1) := by decide +kernel
theorem dJ9_min_7cf53_10 : decode cJ9_min_7cf53 10 = .ok (.ireturn, 1) := by decide +kernel
theorem dJ0_length_8abf5_0 : decode cJ0_length_8abf5 0 = .ok (.aload_n 0, 1) := by decide +kernel
theorem dJ0_length_8abf5_1 : decode cJ0_length_8abf5 1 = .ok (.getfield 9, 3) := by decide +kernel
theorem dJ0_length_8abf5_4 : decode cJ0_length_8abf5 4 = .ok (.arraylength, 1) := by decide +kernel
theorem dJ0_length_8abf5_5 : decode cJ0_length_8abf5 5 = .ok (.aload_n 0, 1) := by decide +kernel
theorem dJ0_length_8abf5_6 : decode cJ0_length_8abf5 6 = .ok (.invokevirtual 335, 3) := by decide +kernel
theorem dJ0_length_8abf5_9 : decode cJ0_length_8abf5 9 = .ok (.ishr, 1) := by decide +kernel
theorem dJ0_length_8abf5_10 : decode cJ0_length_8abf5 10 = .ok (.ireturn, 1) := by decide +kernel
theorem dJ0_charAt_5068e_0 : decode cJ0_charAt_5068e 0 = .ok (.aload_n 0, 1) := by decide +kernel
theorem dJ0_charAt_5068e_1 : decode cJ0_charAt_5068e 1 = .ok (.invokevirtual 492, 3) := by decide +kernel
theorem dJ0_charAt_5068e_4 : decode cJ0_charAt_5068e 4 = .ok (.ifCond .eq 12, 3) := by decide +kernel
theorem dJ0_charAt_5068e_7 : decode cJ0_charAt_5068e 7 = .ok (.aload_n 0, 1) := by decide +kernel
theorem dJ0_charAt_5068e_8 : decode cJ0_charAt_5068e 8 = .ok (.getfield 9, 3) := by decide +kernel
theorem dJ0_charAt_5068e_11 : decode cJ0_charAt_5068e 11 = .ok (.iload_n 1, 1) := by decide +kernel
theorem dJ0_charAt_5068e_12 : decode cJ0_charAt_5068e 12 = .ok (.invokestatic 495, 3) := by decide +kernel
theorem dJ0_charAt_5068e_15 : decode cJ0_charAt_5068e 15 = .ok (.ireturn, 1) := by decide +kernel
theorem dJ0_charAt_5068e_16 : decode cJ0_charAt_5068e 16 = .ok (.aload_n 0, 1) := by decide +kernel
theorem dJ0_charAt_5068e_17 : decode cJ0_charAt_5068e 17 = .ok (.getfield 9, 3) := by decide +kernel
theorem dJ0_charAt_5068e_20 : decode cJ0_charAt_5068e 20 = .ok (.iload_n 1, 1) := by decide +kernel
theorem dJ0_charAt_5068e_21 : decode cJ0_charAt_5068e 21 = .ok (.invokestatic 498, 3) := by decide +kernel
theorem dJ0_charAt_5068e_24 : decode cJ0_charAt_5068e 24 = .ok (.ireturn, 1) := by decide +kernel
theorem dJ0_coder_7d493_0 : decode cJ0_coder_7d493 0 = .ok (.getstatic 38, 3) := by decide +kernel
theorem dJ0_coder_7d493_3 : decode cJ0_coder_7d493 3 = .ok (.ifCond .eq 10, 3) := by decide +kernel
theorem dJ0_coder_7d493_6 : decode cJ0_coder_7d493 6 = .ok (.aload_n 0, 1) := by decide +kernel
theorem dJ0_coder_7d493_7 : decode cJ0_coder_7d493 7 = .ok (.getfield 15, 3) := by decide +kernel
theorem dJ0_coder_7d493_10 : decode cJ0_coder_7d493 10 = .ok (.goto 4, 3) := by decide +kernel
theorem dJ0_coder_7d493_13 : decode cJ0_coder_7d493 13 = .ok (.iconst 1, 1) := by decide +kernel
theorem dJ0_coder_7d493_14 : decode cJ0_coder_7d493 14 = .ok (.ireturn, 1) := by decide +kernel
theorem dJ0_isLatin1_aae02_0 : decode cJ0_isLatin1_aae02 0 = .ok (.getstatic 38, 3) := by decide +kernel
theorem dJ0_isLatin1_aae02_3 : decode cJ0_isLatin1_aae02 3 = .ok (.ifCond .eq 14, 3) := by decide +kernel
theorem dJ0_isLatin1_aae02_6 : decode cJ0_isLatin1_aae02 6 = .ok (.aload_n 0, 1) := by decide +kernel
theorem dJ0_isLatin1_aae02_7 : decode cJ0_isLatin1_aae02 7 = .ok (.getfield 15, 3) := by decide +kernel
theorem dJ0_isLatin1_aae02_10 : decode cJ0_isLatin1_aae02 10 = .ok (.ifCond .ne 7, 3) := by decide +kernel
theorem dJ0_isLatin1_aae02_13 : decode cJ0_isLatin1_aae02 13 = .ok (.iconst 1, 1) := by decide +kernel
theorem dJ0_isLatin1_aae02_14 : decode cJ0_isLatin1_aae02 14 = .ok (.goto 4, 3) := by decide +kernel
theorem dJ0_isLatin1_aae02_17 : decode cJ0_isLatin1_aae02 17 = .ok (.iconst 0, 1) := by decide +kernel
theorem dJ0_isLatin1_aae02_18 : decode cJ0_isLatin1_aae02 18 = .ok (.ireturn, 1) := by decide +kernel
theorem dJ0_checkIndex_df160_0 : decode cJ0_checkIndex_df160 0 = .ok (.iload_n 0, 1) := by decide +kernel
theorem dJ0_checkIndex_df160_1 : decode cJ0_checkIndex_df160 1 = .ok (.iload_n 1, 1) := by decide +kernel
theorem dJ0_checkIndex_df160_2 : decode cJ0_checkIndex_df160 2 = .ok (.getstatic 1053, 3) := by decide +kernel
theorem dJ0_checkIndex_df160_5 : decode cJ0_checkIndex_df160 5 = .ok (.invokestatic 1059, 3) := by decide +kernel
theorem dJ0_checkIndex_df160_8 : decode cJ0_checkIndex_df160 8 = .ok (.pop, 1) := by decide +kernel
theorem dJ0_checkIndex_df160_9 : decode cJ0_checkIndex_df160 9 = .ok (.return_, 1) := by decide +kernel
theorem dJ4_init_da8c8_0 : decode cJ4_init_da8c8 0 = .ok (.aload_n 0, 1) := by decide +kernel
theorem dJ4_init_da8c8_1 : decode cJ4_init_da8c8 1 = .ok (.bipush 16, 2) := by decide +kernel
theorem dJ4_init_da8c8_3 : decode cJ4_init_da8c8 3 = .ok (.invokespecial 1, 3) := by decide +kernel
theorem dJ4_init_da8c8_6 : decode cJ4_init_da8c8 6 = .ok (.return_, 1) := by decide +kernel
theorem dJ4_append_cf468_0 : decode cJ4_append_cf468 0 = .ok (.aload_n 0, 1) := by decide +kernel
theorem dJ4_append_cf468_1 : decode cJ4_append_cf468 1 = .ok (.iload_n 1, 1) := by decide +kernel
theorem dJ4_append_cf468_2 : decode cJ4_append_cf468 2 = .ok (.invokespecial 50, 3) := by decide +kernel
theorem dJ4_append_cf468_5 : decode cJ4_append_cf468 5 = .ok (.pop, 1) := by decide +kernel
theorem dJ4_append_cf468_6 : decode cJ4_append_cf468 6 = .ok (.aload_n 0, 1) := by decide +kernel
theorem dJ4_append_cf468_7 : decode cJ4_append_cf468 7 = .ok (.areturn, 1) := by decide +kernel
theorem dJ4_charAt_5068e_0 : decode cJ4_charAt_5068e 0 = .ok (.aload_n 0, 1) := by decide +kernel
theorem dJ4_charAt_5068e_1 : decode cJ4_charAt_5068e 1 = .ok (.iload_n 1, 1) := by decide +kernel
theorem dJ4_charAt_5068e_2 : decode cJ4_charAt_5068e 2 = .ok (.invokespecial 329, 3) := by decide +kernel
theorem dJ4_charAt_5068e_5 : decode cJ4_charAt_5068e 5 = .ok (.ireturn, 1) := by decide +kernel
theorem dJ4_setLength_d00df_0 : decode cJ4_setLength_d00df 0 = .ok (.aload_n 0, 1) := by decide +kernel
theorem dJ4_setLength_d00df_1 : decode cJ4_setLength_d00df 1 = .ok (.iload_n 1, 1) := by decide +kernel
theorem dJ4_setLength_d00df_2 : decode cJ4_setLength_d00df 2 = .ok (.invokespecial 333, 3) := by decide +kernel
theorem dJ4_setLength_d00df_5 : decode cJ4_setLength_d00df 5 = .ok (.return_, 1) := by decide +kernel
theorem dJ4_length_8abf5_0 : decode cJ4_length_8abf5 0 = .ok (.aload_n 0, 1) := by decide +kernel
theorem dJ4_length_8abf5_1 : decode cJ4_length_8abf5 1 = .ok (.invokespecial 343, 3) := by decide +kernel
theorem dJ4_length_8abf5_4 : decode cJ4_length_8abf5 4 = .ok (.ireturn, 1) := by decide +kernel
theorem dJ1_charAt_3b067_0 : decode cJ1_charAt_3b067 0 = .ok (.iload_n 1, 1) := by decide +kernel
theorem dJ1_charAt_3b067_1 : decode cJ1_charAt_3b067 1 = .ok (.aload_n 0, 1) := by decide +kernel
theorem dJ1_charAt_3b067_2 : decode cJ1_charAt_3b067 2 = .ok (.arraylength, 1) := by decide +kernel
theorem dJ1_charAt_3b067_3 : decode cJ1_charAt_3b067 3 = .ok (.invokestatic 9, 3) := by decide +kernel
theorem dJ1_charAt_3b067_6 : decode cJ1_charAt_3b067 6 = .ok (.aload_n 0, 1) := by decide +kernel
theorem dJ1_charAt_3b067_7 : decode cJ1_charAt_3b067 7 = .ok (.iload_n 1, 1) := by decide +kernel
theorem dJ1_charAt_3b067_8 : decode cJ1_charAt_3b067 8 = .ok (.baload, 1) := by decide +kernel
theorem dJ1_charAt_3b067_9 : decode cJ1_charAt_3b067 9 = .ok (.sipush 255, 3) := by decide +kernel
theorem dJ1_charAt_3b067_12 : decode cJ1_charAt_3b067 12 = .ok (.iand, 1) := by decide +kernel
theorem dJ1_charAt_3b067_13 : decode cJ1_charAt_3b067 13 = .ok (.i2c, 1) := by decide +kernel
theorem dJ1_charAt_3b067_14 : decode cJ1_charAt_3b067 14 = .ok (.ireturn, 1) := by decide +kernel
theorem dJ1_canEncode_fc78d_0 : decode cJ1_canEncode_fc78d 0 = .ok (.iload_n 0, 1) := by decide +kernel
theorem dJ1_canEncode_fc78d_1 : decode cJ1_canEncode_fc78d 1 = .ok (.sipush 255, 3) := by decide +kernel
theorem dJ1_canEncode_fc78d_4 : decode cJ1_canEncode_fc78d 4 = .ok (.if_icmp .gt 7, 3) := by decide +kernel
theorem dJ1_canEncode_fc78d_7 : decode cJ1_canEncode_fc78d 7 = .ok (.iconst 1, 1) := by decide +kernel
theorem dJ1_canEncode_fc78d_8 : decode cJ1_canEncode_fc78d 8 = .ok (.goto 4, 3) := by decide +kernel
theorem dJ1_canEncode_fc78d_11 : decode cJ1_canEncode_fc78d 11 = .ok (.iconst 0, 1) := by decide +kernel
theorem dJ1_canEncode_fc78d_12 : decode cJ1_canEncode_fc78d 12 = .ok (.ireturn, 1) := by decide +kernel
theorem dJ3_checkIndex_8e157_0 : decode cJ3_checkIndex_8e157 0 = .ok (.iload_n 0, 1) := by decide +kernel
theorem dJ3_checkIndex_8e157_1 : decode cJ3_checkIndex_8e157 1 = .ok (.ifCond .lt 8, 3) := by decide +kernel
theorem dJ3_checkIndex_8e157_4 : decode cJ3_checkIndex_8e157 4 = .ok (.iload_n 0, 1) := by decide +kernel
theorem dJ3_checkIndex_8e157_5 : decode cJ3_checkIndex_8e157 5 = .ok (.iload_n 1, 1) := by decide +kernel
theorem dJ3_checkIndex_8e157_6 : decode cJ3_checkIndex_8e157 6 = .ok (.if_icmp .lt 10, 3) := by decide +kernel
theorem dJ3_checkIndex_8e157_9 : decode cJ3_checkIndex_8e157 9 = .ok (.aload_n 2, 1) := by decide +kernel
theorem dJ3_checkIndex_8e157_10 : decode cJ3_checkIndex_8e157 10 = .ok (.iload_n 0, 1) := by decide +kernel
theorem dJ3_checkIndex_8e157_11 : decode cJ3_checkIndex_8e157 11 = .ok (.iload_n 1, 1) := by decide +kernel
theorem dJ3_checkIndex_8e157_12 : decode cJ3_checkIndex_8e157 12 = .ok (.invokestatic 95, 3) := by decide +kernel
theorem dJ3_checkIndex_8e157_15 : decode cJ3_checkIndex_8e157 15 = .ok (.athrow, 1) := by decide +kernel
theorem dJ3_checkIndex_8e157_16 : decode cJ3_checkIndex_8e157 16 = .ok (.iload_n 0, 1) := by decide +kernel
theorem dJ3_checkIndex_8e157_17 : decode cJ3_checkIndex_8e157 17 = .ok (.ireturn, 1) := by decide +kernel

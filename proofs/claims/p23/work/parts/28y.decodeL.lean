theorem dL_dice_0 : decode cL_dice 0 = .ok (.iload_n 1, 1) := by decide +kernel
theorem dL_dice_1 : decode cL_dice 1 = .ok (.aload_n 0, 1) := by decide +kernel
theorem dL_dice_2 : decode cL_dice 2 = .ok (.arraylength, 1) := by decide +kernel
theorem dL_dice_3 : decode cL_dice 3 = .ok (.if_icmp .ge 9, 3) := by decide +kernel
theorem dL_dice_6 : decode cL_dice 6 = .ok (.aload_n 0, 1) := by decide +kernel
theorem dL_dice_7 : decode cL_dice 7 = .ok (.iload_n 1, 1) := by decide +kernel
theorem dL_dice_8 : decode cL_dice 8 = .ok (.iaload, 1) := by decide +kernel
theorem dL_dice_9 : decode cL_dice 9 = .ok (.goto 23, 3) := by decide +kernel
theorem dL_dice_12 : decode cL_dice 12 = .ok (.ldc 7, 2) := by decide +kernel
theorem dL_dice_14 : decode cL_dice 14 = .ok (.iload_n 1, 1) := by decide +kernel
theorem dL_dice_15 : decode cL_dice 15 = .ok (.sipush 619, 3) := by decide +kernel
theorem dL_dice_18 : decode cL_dice 18 = .ok (.iadd, 1) := by decide +kernel
theorem dL_dice_19 : decode cL_dice 19 = .ok (.imul, 1) := by decide +kernel
theorem dL_dice_20 : decode cL_dice 20 = .ok (.sipush 961, 3) := by decide +kernel
theorem dL_dice_23 : decode cL_dice 23 = .ok (.iload_n 1, 1) := by decide +kernel
theorem dL_dice_24 : decode cL_dice 24 = .ok (.imul, 1) := by decide +kernel
theorem dL_dice_25 : decode cL_dice 25 = .ok (.iload_n 1, 1) := by decide +kernel
theorem dL_dice_26 : decode cL_dice 26 = .ok (.imul, 1) := by decide +kernel
theorem dL_dice_27 : decode cL_dice 27 = .ok (.iadd, 1) := by decide +kernel
theorem dL_dice_28 : decode cL_dice 28 = .ok (.sipush 487, 3) := by decide +kernel
theorem dL_dice_31 : decode cL_dice 31 = .ok (.iadd, 1) := by decide +kernel
theorem dL_dice_32 : decode cL_dice 32 = .ok (.ldc 8, 2) := by decide +kernel
theorem dL_dice_34 : decode cL_dice 34 = .ok (.iand, 1) := by decide +kernel
theorem dL_dice_35 : decode cL_dice 35 = .ok (.ireturn, 1) := by decide +kernel
theorem dL_act_0 : decode cL_act 0 = .ok (.iload_n 1, 1) := by decide +kernel
theorem dL_act_1 : decode cL_act 1 = .ok (.ifCond .ne 12, 3) := by decide +kernel
theorem dL_act_4 : decode cL_act 4 = .ok (.aload_n 0, 1) := by decide +kernel
theorem dL_act_5 : decode cL_act 5 = .ok (.iload_n 2, 1) := by decide +kernel
theorem dL_act_6 : decode cL_act 6 = .ok (.i2c, 1) := by decide +kernel
theorem dL_act_7 : decode cL_act 7 = .ok (.invokevirtual 9, 3) := by decide +kernel
theorem dL_act_10 : decode cL_act 10 = .ok (.goto 292, 3) := by decide +kernel
theorem dL_act_13 : decode cL_act 13 = .ok (.iload_n 1, 1) := by decide +kernel
theorem dL_act_14 : decode cL_act 14 = .ok (.iconst 1, 1) := by decide +kernel
theorem dL_act_15 : decode cL_act 15 = .ok (.if_icmp .ne 11, 3) := by decide +kernel
theorem dL_act_18 : decode cL_act 18 = .ok (.aload_n 0, 1) := by decide +kernel
theorem dL_act_19 : decode cL_act 19 = .ok (.iload_n 2, 1) := by decide +kernel
theorem dL_act_20 : decode cL_act 20 = .ok (.invokevirtual 15, 3) := by decide +kernel
theorem dL_act_23 : decode cL_act 23 = .ok (.goto 279, 3) := by decide +kernel
theorem dL_act_26 : decode cL_act 26 = .ok (.iload_n 1, 1) := by decide +kernel
theorem dL_act_27 : decode cL_act 27 = .ok (.iconst 2, 1) := by decide +kernel
theorem dL_act_28 : decode cL_act 28 = .ok (.if_icmp .ne 14, 3) := by decide +kernel
theorem dL_act_31 : decode cL_act 31 = .ok (.aload_n 0, 1) := by decide +kernel
theorem dL_act_32 : decode cL_act 32 = .ok (.iload_n 2, 1) := by decide +kernel
theorem dL_act_33 : decode cL_act 33 = .ok (.iload_n 3, 1) := by decide +kernel
theorem dL_act_34 : decode cL_act 34 = .ok (.iload 4, 2) := by decide +kernel
theorem dL_act_36 : decode cL_act 36 = .ok (.invokevirtual 19, 3) := by decide +kernel
theorem dL_act_39 : decode cL_act 39 = .ok (.goto 263, 3) := by decide +kernel
theorem dL_act_42 : decode cL_act 42 = .ok (.iload_n 1, 1) := by decide +kernel
theorem dL_act_43 : decode cL_act 43 = .ok (.iconst 3, 1) := by decide +kernel
theorem dL_act_44 : decode cL_act 44 = .ok (.if_icmp .ne 10, 3) := by decide +kernel
theorem dL_act_47 : decode cL_act 47 = .ok (.aload_n 0, 1) := by decide +kernel
theorem dL_act_48 : decode cL_act 48 = .ok (.invokevirtual 23, 3) := by decide +kernel
theorem dL_act_51 : decode cL_act 51 = .ok (.goto 251, 3) := by decide +kernel
theorem dL_act_54 : decode cL_act 54 = .ok (.iload_n 1, 1) := by decide +kernel
theorem dL_act_55 : decode cL_act 55 = .ok (.iconst 4, 1) := by decide +kernel
theorem dL_act_56 : decode cL_act 56 = .ok (.if_icmp .ne 12, 3) := by decide +kernel
theorem dL_act_59 : decode cL_act 59 = .ok (.aload_n 0, 1) := by decide +kernel
theorem dL_act_60 : decode cL_act 60 = .ok (.iload_n 2, 1) := by decide +kernel
theorem dL_act_61 : decode cL_act 61 = .ok (.iload_n 3, 1) := by decide +kernel
theorem dL_act_62 : decode cL_act 62 = .ok (.invokevirtual 27, 3) := by decide +kernel
theorem dL_act_65 : decode cL_act 65 = .ok (.goto 237, 3) := by decide +kernel
theorem dL_act_68 : decode cL_act 68 = .ok (.iload_n 1, 1) := by decide +kernel
theorem dL_act_69 : decode cL_act 69 = .ok (.iconst 5, 1) := by decide +kernel
theorem dL_act_70 : decode cL_act 70 = .ok (.if_icmp .ne 12, 3) := by decide +kernel
theorem dL_act_73 : decode cL_act 73 = .ok (.aload_n 0, 1) := by decide +kernel
theorem dL_act_74 : decode cL_act 74 = .ok (.iload_n 2, 1) := by decide +kernel
theorem dL_act_75 : decode cL_act 75 = .ok (.iload_n 3, 1) := by decide +kernel
theorem dL_act_76 : decode cL_act 76 = .ok (.invokevirtual 31, 3) := by decide +kernel
theorem dL_act_79 : decode cL_act 79 = .ok (.goto 223, 3) := by decide +kernel
theorem dL_act_82 : decode cL_act 82 = .ok (.iload_n 1, 1) := by decide +kernel
theorem dL_act_83 : decode cL_act 83 = .ok (.bipush 6, 2) := by decide +kernel
theorem dL_act_85 : decode cL_act 85 = .ok (.if_icmp .ne 12, 3) := by decide +kernel
theorem dL_act_88 : decode cL_act 88 = .ok (.aload_n 0, 1) := by decide +kernel
theorem dL_act_89 : decode cL_act 89 = .ok (.iload_n 2, 1) := by decide +kernel
theorem dL_act_90 : decode cL_act 90 = .ok (.iload_n 3, 1) := by decide +kernel
theorem dL_act_91 : decode cL_act 91 = .ok (.invokevirtual 34, 3) := by decide +kernel
theorem dL_act_94 : decode cL_act 94 = .ok (.goto 208, 3) := by decide +kernel
theorem dL_act_97 : decode cL_act 97 = .ok (.iload_n 1, 1) := by decide +kernel
theorem dL_act_98 : decode cL_act 98 = .ok (.bipush 7, 2) := by decide +kernel
theorem dL_act_100 : decode cL_act 100 = .ok (.if_icmp .ne 19, 3) := by decide +kernel
theorem dL_act_103 : decode cL_act 103 = .ok (.aload_n 0, 1) := by decide +kernel
theorem dL_act_104 : decode cL_act 104 = .ok (.iload_n 2, 1) := by decide +kernel
theorem dL_act_105 : decode cL_act 105 = .ok (.invokevirtual 37, 3) := by decide +kernel
theorem dL_act_108 : decode cL_act 108 = .ok (.ifCond .eq 7, 3) := by decide +kernel
theorem dL_act_111 : decode cL_act 111 = .ok (.iconst 1, 1) := by decide +kernel
theorem dL_act_112 : decode cL_act 112 = .ok (.goto 190, 3) := by decide +kernel
theorem dL_act_115 : decode cL_act 115 = .ok (.iconst 0, 1) := by decide +kernel
theorem dL_act_116 : decode cL_act 116 = .ok (.goto 186, 3) := by decide +kernel
theorem dL_act_119 : decode cL_act 119 = .ok (.iload_n 1, 1) := by decide +kernel
theorem dL_act_120 : decode cL_act 120 = .ok (.bipush 8, 2) := by decide +kernel
theorem dL_act_122 : decode cL_act 122 = .ok (.if_icmp .ne 11, 3) := by decide +kernel
theorem dL_act_125 : decode cL_act 125 = .ok (.aload_n 0, 1) := by decide +kernel
theorem dL_act_126 : decode cL_act 126 = .ok (.iload_n 2, 1) := by decide +kernel
theorem dL_act_127 : decode cL_act 127 = .ok (.invokevirtual 41, 3) := by decide +kernel
theorem dL_act_130 : decode cL_act 130 = .ok (.goto 172, 3) := by decide +kernel
theorem dL_act_133 : decode cL_act 133 = .ok (.iload_n 1, 1) := by decide +kernel
theorem dL_act_134 : decode cL_act 134 = .ok (.bipush 9, 2) := by decide +kernel
theorem dL_act_136 : decode cL_act 136 = .ok (.if_icmp .ne 14, 3) := by decide +kernel
theorem dL_act_139 : decode cL_act 139 = .ok (.aload_n 0, 1) := by decide +kernel
theorem dL_act_140 : decode cL_act 140 = .ok (.iload_n 2, 1) := by decide +kernel
theorem dL_act_141 : decode cL_act 141 = .ok (.iload_n 3, 1) := by decide +kernel
theorem dL_act_142 : decode cL_act 142 = .ok (.iload 4, 2) := by decide +kernel
theorem dL_act_144 : decode cL_act 144 = .ok (.invokevirtual 44, 3) := by decide +kernel
theorem dL_act_147 : decode cL_act 147 = .ok (.goto 155, 3) := by decide +kernel
theorem dL_act_150 : decode cL_act 150 = .ok (.iload_n 1, 1) := by decide +kernel
theorem dL_act_151 : decode cL_act 151 = .ok (.bipush 10, 2) := by decide +kernel
theorem dL_act_153 : decode cL_act 153 = .ok (.if_icmp .ne 12, 3) := by decide +kernel
theorem dL_act_156 : decode cL_act 156 = .ok (.aload_n 0, 1) := by decide +kernel
theorem dL_act_157 : decode cL_act 157 = .ok (.iload_n 2, 1) := by decide +kernel
theorem dL_act_158 : decode cL_act 158 = .ok (.iload_n 3, 1) := by decide +kernel
theorem dL_act_159 : decode cL_act 159 = .ok (.invokevirtual 47, 3) := by decide +kernel
theorem dL_act_162 : decode cL_act 162 = .ok (.goto 140, 3) := by decide +kernel
theorem dL_act_165 : decode cL_act 165 = .ok (.iload_n 1, 1) := by decide +kernel
theorem dL_act_166 : decode cL_act 166 = .ok (.bipush 11, 2) := by decide +kernel
theorem dL_act_168 : decode cL_act 168 = .ok (.if_icmp .ne 12, 3) := by decide +kernel
theorem dL_act_171 : decode cL_act 171 = .ok (.aload_n 0, 1) := by decide +kernel
theorem dL_act_172 : decode cL_act 172 = .ok (.iload_n 2, 1) := by decide +kernel
theorem dL_act_173 : decode cL_act 173 = .ok (.iload_n 3, 1) := by decide +kernel
theorem dL_act_174 : decode cL_act 174 = .ok (.invokevirtual 50, 3) := by decide +kernel
theorem dL_act_177 : decode cL_act 177 = .ok (.goto 125, 3) := by decide +kernel
theorem dL_act_180 : decode cL_act 180 = .ok (.iload_n 1, 1) := by decide +kernel
theorem dL_act_181 : decode cL_act 181 = .ok (.bipush 12, 2) := by decide +kernel
theorem dL_act_183 : decode cL_act 183 = .ok (.if_icmp .ne 11, 3) := by decide +kernel
theorem dL_act_186 : decode cL_act 186 = .ok (.aload_n 0, 1) := by decide +kernel
theorem dL_act_187 : decode cL_act 187 = .ok (.iload_n 2, 1) := by decide +kernel
theorem dL_act_188 : decode cL_act 188 = .ok (.invokevirtual 53, 3) := by decide +kernel
theorem dL_act_191 : decode cL_act 191 = .ok (.goto 111, 3) := by decide +kernel
theorem dL_act_194 : decode cL_act 194 = .ok (.iload_n 1, 1) := by decide +kernel
theorem dL_act_195 : decode cL_act 195 = .ok (.bipush 13, 2) := by decide +kernel
theorem dL_act_197 : decode cL_act 197 = .ok (.if_icmp .ne 11, 3) := by decide +kernel
theorem dL_act_200 : decode cL_act 200 = .ok (.aload_n 0, 1) := by decide +kernel
theorem dL_act_201 : decode cL_act 201 = .ok (.iload_n 2, 1) := by decide +kernel
theorem dL_act_202 : decode cL_act 202 = .ok (.invokevirtual 56, 3) := by decide +kernel
theorem dL_act_205 : decode cL_act 205 = .ok (.goto 97, 3) := by decide +kernel
theorem dL_act_208 : decode cL_act 208 = .ok (.iload_n 1, 1) := by decide +kernel
theorem dL_act_209 : decode cL_act 209 = .ok (.bipush 14, 2) := by decide +kernel
theorem dL_act_211 : decode cL_act 211 = .ok (.if_icmp .ne 11, 3) := by decide +kernel
theorem dL_act_214 : decode cL_act 214 = .ok (.aload_n 0, 1) := by decide +kernel
theorem dL_act_215 : decode cL_act 215 = .ok (.iload_n 2, 1) := by decide +kernel
theorem dL_act_216 : decode cL_act 216 = .ok (.invokevirtual 59, 3) := by decide +kernel
theorem dL_act_219 : decode cL_act 219 = .ok (.goto 83, 3) := by decide +kernel
theorem dL_act_222 : decode cL_act 222 = .ok (.iload_n 1, 1) := by decide +kernel
theorem dL_act_223 : decode cL_act 223 = .ok (.bipush 15, 2) := by decide +kernel
theorem dL_act_225 : decode cL_act 225 = .ok (.if_icmp .ne 12, 3) := by decide +kernel
theorem dL_act_228 : decode cL_act 228 = .ok (.aload_n 0, 1) := by decide +kernel
theorem dL_act_229 : decode cL_act 229 = .ok (.iload_n 2, 1) := by decide +kernel
theorem dL_act_230 : decode cL_act 230 = .ok (.iload_n 3, 1) := by decide +kernel
theorem dL_act_231 : decode cL_act 231 = .ok (.invokevirtual 62, 3) := by decide +kernel
theorem dL_act_234 : decode cL_act 234 = .ok (.goto 68, 3) := by decide +kernel
theorem dL_act_237 : decode cL_act 237 = .ok (.iload_n 1, 1) := by decide +kernel
theorem dL_act_238 : decode cL_act 238 = .ok (.bipush 16, 2) := by decide +kernel
theorem dL_act_240 : decode cL_act 240 = .ok (.if_icmp .ne 19, 3) := by decide +kernel
theorem dL_act_243 : decode cL_act 243 = .ok (.aload_n 0, 1) := by decide +kernel
theorem dL_act_244 : decode cL_act 244 = .ok (.iload_n 2, 1) := by decide +kernel
theorem dL_act_245 : decode cL_act 245 = .ok (.invokevirtual 65, 3) := by decide +kernel
theorem dL_act_248 : decode cL_act 248 = .ok (.ifCond .eq 7, 3) := by decide +kernel
theorem dL_act_251 : decode cL_act 251 = .ok (.iconst 1, 1) := by decide +kernel
theorem dL_act_252 : decode cL_act 252 = .ok (.goto 50, 3) := by decide +kernel
theorem dL_act_255 : decode cL_act 255 = .ok (.iconst 0, 1) := by decide +kernel
theorem dL_act_256 : decode cL_act 256 = .ok (.goto 46, 3) := by decide +kernel
theorem dL_act_259 : decode cL_act 259 = .ok (.iload_n 1, 1) := by decide +kernel
theorem dL_act_260 : decode cL_act 260 = .ok (.bipush 17, 2) := by decide +kernel
theorem dL_act_262 : decode cL_act 262 = .ok (.if_icmp .ne 11, 3) := by decide +kernel
theorem dL_act_265 : decode cL_act 265 = .ok (.aload_n 0, 1) := by decide +kernel
theorem dL_act_266 : decode cL_act 266 = .ok (.iload_n 2, 1) := by decide +kernel
theorem dL_act_267 : decode cL_act 267 = .ok (.invokevirtual 68, 3) := by decide +kernel
theorem dL_act_270 : decode cL_act 270 = .ok (.goto 32, 3) := by decide +kernel
theorem dL_act_273 : decode cL_act 273 = .ok (.iload_n 1, 1) := by decide +kernel
theorem dL_act_274 : decode cL_act 274 = .ok (.bipush 18, 2) := by decide +kernel
theorem dL_act_276 : decode cL_act 276 = .ok (.if_icmp .ne 21, 3) := by decide +kernel
theorem dL_act_279 : decode cL_act 279 = .ok (.aload_n 0, 1) := by decide +kernel
theorem dL_act_280 : decode cL_act 280 = .ok (.iload_n 2, 1) := by decide +kernel
theorem dL_act_281 : decode cL_act 281 = .ok (.iload_n 3, 1) := by decide +kernel
theorem dL_act_282 : decode cL_act 282 = .ok (.iconst 1, 1) := by decide +kernel
theorem dL_act_283 : decode cL_act 283 = .ok (.if_icmp .ne 7, 3) := by decide +kernel
theorem dL_act_286 : decode cL_act 286 = .ok (.iconst 1, 1) := by decide +kernel
theorem dL_act_287 : decode cL_act 287 = .ok (.goto 4, 3) := by decide +kernel
theorem dL_act_290 : decode cL_act 290 = .ok (.iconst 0, 1) := by decide +kernel
theorem dL_act_291 : decode cL_act 291 = .ok (.invokevirtual 71, 3) := by decide +kernel
theorem dL_act_294 : decode cL_act 294 = .ok (.goto 8, 3) := by decide +kernel
theorem dL_act_297 : decode cL_act 297 = .ok (.aload_n 0, 1) := by decide +kernel
theorem dL_act_298 : decode cL_act 298 = .ok (.iload_n 2, 1) := by decide +kernel
theorem dL_act_299 : decode cL_act 299 = .ok (.invokevirtual 75, 3) := by decide +kernel
theorem dL_act_302 : decode cL_act 302 = .ok (.ireturn, 1) := by decide +kernel
theorem dL_act_303 : decode cL_act 303 = .ok (.astore 5, 2) := by decide +kernel
theorem dL_act_305 : decode cL_act 305 = .ok (.ldc 80, 2) := by decide +kernel
theorem dL_act_307 : decode cL_act 307 = .ok (.ireturn, 1) := by decide +kernel
theorem dL_act_308 : decode cL_act 308 = .ok (.astore 5, 2) := by decide +kernel
theorem dL_act_310 : decode cL_act 310 = .ok (.ldc 83, 2) := by decide +kernel
theorem dL_act_312 : decode cL_act 312 = .ok (.ireturn, 1) := by decide +kernel
theorem dL_act_313 : decode cL_act 313 = .ok (.astore 5, 2) := by decide +kernel
theorem dL_act_315 : decode cL_act 315 = .ok (.ldc 86, 2) := by decide +kernel
theorem dL_act_317 : decode cL_act 317 = .ok (.ireturn, 1) := by decide +kernel
theorem dL_all_0 : decode cL_all 0 = .ok (.aload_n 0, 1) := by decide +kernel
theorem dL_all_1 : decode cL_all 1 = .ok (.iconst 0, 1) := by decide +kernel
theorem dL_all_2 : decode cL_all 2 = .ok (.invokevirtual 68, 3) := by decide +kernel
theorem dL_all_5 : decode cL_all 5 = .ok (.i2l, 1) := by decide +kernel
theorem dL_all_6 : decode cL_all 6 = .ok (.ldc2_w 87, 3) := by decide +kernel
theorem dL_all_9 : decode cL_all 9 = .ok (.aload_n 0, 1) := by decide +kernel
theorem dL_all_10 : decode cL_all 10 = .ok (.iconst 3, 1) := by decide +kernel
theorem dL_all_11 : decode cL_all 11 = .ok (.invokevirtual 68, 3) := by decide +kernel
theorem dL_all_14 : decode cL_all 14 = .ok (.i2l, 1) := by decide +kernel
theorem dL_all_15 : decode cL_all 15 = .ok (.lmul, 1) := by decide +kernel
theorem dL_all_16 : decode cL_all 16 = .ok (.ladd, 1) := by decide +kernel
theorem dL_all_17 : decode cL_all 17 = .ok (.lstore_n 2, 1) := by decide +kernel
theorem dL_all_18 : decode cL_all 18 = .ok (.iconst 0, 1) := by decide +kernel
theorem dL_all_19 : decode cL_all 19 = .ok (.istore 4, 2) := by decide +kernel
theorem dL_all_21 : decode cL_all 21 = .ok (.iload 4, 2) := by decide +kernel
theorem dL_all_23 : decode cL_all 23 = .ok (.bipush 12, 2) := by decide +kernel
theorem dL_all_25 : decode cL_all 25 = .ok (.aload_n 1, 1) := by decide +kernel
theorem dL_all_26 : decode cL_all 26 = .ok (.iconst 1, 1) := by decide +kernel
theorem dL_all_27 : decode cL_all 27 = .ok (.iaload, 1) := by decide +kernel
theorem dL_all_28 : decode cL_all 28 = .ok (.imul, 1) := by decide +kernel
theorem dL_all_29 : decode cL_all 29 = .ok (.if_icmp .ge 37, 3) := by decide +kernel
theorem dL_all_32 : decode cL_all 32 = .ok (.ldc2_w 87, 3) := by decide +kernel
theorem dL_all_35 : decode cL_all 35 = .ok (.lload_n 2, 1) := by decide +kernel
theorem dL_all_36 : decode cL_all 36 = .ok (.lmul, 1) := by decide +kernel
theorem dL_all_37 : decode cL_all 37 = .ok (.aload_n 0, 1) := by decide +kernel
theorem dL_all_38 : decode cL_all 38 = .ok (.iload 4, 2) := by decide +kernel
theorem dL_all_40 : decode cL_all 40 = .ok (.bipush 12, 2) := by decide +kernel
theorem dL_all_42 : decode cL_all 42 = .ok (.idiv, 1) := by decide +kernel
theorem dL_all_43 : decode cL_all 43 = .ok (.iload 4, 2) := by decide +kernel
theorem dL_all_45 : decode cL_all 45 = .ok (.iconst 2, 1) := by decide +kernel
theorem dL_all_46 : decode cL_all 46 = .ok (.idiv, 1) := by decide +kernel
theorem dL_all_47 : decode cL_all 47 = .ok (.bipush 6, 2) := by decide +kernel
theorem dL_all_49 : decode cL_all 49 = .ok (.irem, 1) := by decide +kernel
theorem dL_all_50 : decode cL_all 50 = .ok (.iload 4, 2) := by decide +kernel
theorem dL_all_52 : decode cL_all 52 = .ok (.iconst 2, 1) := by decide +kernel
theorem dL_all_53 : decode cL_all 53 = .ok (.irem, 1) := by decide +kernel
theorem dL_all_54 : decode cL_all 54 = .ok (.invokevirtual 44, 3) := by decide +kernel
theorem dL_all_57 : decode cL_all 57 = .ok (.i2l, 1) := by decide +kernel
theorem dL_all_58 : decode cL_all 58 = .ok (.ladd, 1) := by decide +kernel
theorem dL_all_59 : decode cL_all 59 = .ok (.lstore_n 2, 1) := by decide +kernel
theorem dL_all_60 : decode cL_all 60 = .ok (.iinc 4 1, 3) := by decide +kernel
theorem dL_all_63 : decode cL_all 63 = .ok (.goto (-42), 3) := by decide +kernel
theorem dL_all_66 : decode cL_all 66 = .ok (.iconst 0, 1) := by decide +kernel
theorem dL_all_67 : decode cL_all 67 = .ok (.istore 4, 2) := by decide +kernel
theorem dL_all_69 : decode cL_all 69 = .ok (.iload 4, 2) := by decide +kernel
theorem dL_all_71 : decode cL_all 71 = .ok (.aload_n 1, 1) := by decide +kernel
theorem dL_all_72 : decode cL_all 72 = .ok (.iconst 0, 1) := by decide +kernel
theorem dL_all_73 : decode cL_all 73 = .ok (.iaload, 1) := by decide +kernel
theorem dL_all_74 : decode cL_all 74 = .ok (.if_icmp .ge 23, 3) := by decide +kernel
theorem dL_all_77 : decode cL_all 77 = .ok (.ldc2_w 87, 3) := by decide +kernel
theorem dL_all_80 : decode cL_all 80 = .ok (.lload_n 2, 1) := by decide +kernel
theorem dL_all_81 : decode cL_all 81 = .ok (.lmul, 1) := by decide +kernel
theorem dL_all_82 : decode cL_all 82 = .ok (.aload_n 0, 1) := by decide +kernel
theorem dL_all_83 : decode cL_all 83 = .ok (.iload 4, 2) := by decide +kernel
theorem dL_all_85 : decode cL_all 85 = .ok (.invokevirtual 75, 3) := by decide +kernel
theorem dL_all_88 : decode cL_all 88 = .ok (.i2l, 1) := by decide +kernel
theorem dL_all_89 : decode cL_all 89 = .ok (.ladd, 1) := by decide +kernel
theorem dL_all_90 : decode cL_all 90 = .ok (.lstore_n 2, 1) := by decide +kernel
theorem dL_all_91 : decode cL_all 91 = .ok (.iinc 4 1, 3) := by decide +kernel
theorem dL_all_94 : decode cL_all 94 = .ok (.goto (-25), 3) := by decide +kernel
theorem dL_all_97 : decode cL_all 97 = .ok (.iconst 0, 1) := by decide +kernel
theorem dL_all_98 : decode cL_all 98 = .ok (.istore 4, 2) := by decide +kernel
theorem dL_all_100 : decode cL_all 100 = .ok (.iload 4, 2) := by decide +kernel
theorem dL_all_102 : decode cL_all 102 = .ok (.aload_n 1, 1) := by decide +kernel
theorem dL_all_103 : decode cL_all 103 = .ok (.iconst 3, 1) := by decide +kernel
theorem dL_all_104 : decode cL_all 104 = .ok (.iaload, 1) := by decide +kernel
theorem dL_all_105 : decode cL_all 105 = .ok (.if_icmp .ge 37, 3) := by decide +kernel
theorem dL_all_108 : decode cL_all 108 = .ok (.ldc2_w 87, 3) := by decide +kernel
theorem dL_all_111 : decode cL_all 111 = .ok (.lload_n 2, 1) := by decide +kernel
theorem dL_all_112 : decode cL_all 112 = .ok (.lmul, 1) := by decide +kernel
theorem dL_all_113 : decode cL_all 113 = .ok (.aload_n 0, 1) := by decide +kernel
theorem dL_all_114 : decode cL_all 114 = .ok (.iload 4, 2) := by decide +kernel
theorem dL_all_116 : decode cL_all 116 = .ok (.iconst 1, 1) := by decide +kernel
theorem dL_all_117 : decode cL_all 117 = .ok (.invokevirtual 71, 3) := by decide +kernel
theorem dL_all_120 : decode cL_all 120 = .ok (.i2l, 1) := by decide +kernel
theorem dL_all_121 : decode cL_all 121 = .ok (.ladd, 1) := by decide +kernel
theorem dL_all_122 : decode cL_all 122 = .ok (.ldc2_w 89, 3) := by decide +kernel
theorem dL_all_125 : decode cL_all 125 = .ok (.aload_n 0, 1) := by decide +kernel
theorem dL_all_126 : decode cL_all 126 = .ok (.iload 4, 2) := by decide +kernel
theorem dL_all_128 : decode cL_all 128 = .ok (.iconst 0, 1) := by decide +kernel
theorem dL_all_129 : decode cL_all 129 = .ok (.invokevirtual 71, 3) := by decide +kernel
theorem dL_all_132 : decode cL_all 132 = .ok (.i2l, 1) := by decide +kernel
theorem dL_all_133 : decode cL_all 133 = .ok (.lmul, 1) := by decide +kernel
theorem dL_all_134 : decode cL_all 134 = .ok (.ladd, 1) := by decide +kernel
theorem dL_all_135 : decode cL_all 135 = .ok (.lstore_n 2, 1) := by decide +kernel
theorem dL_all_136 : decode cL_all 136 = .ok (.iinc 4 1, 3) := by decide +kernel
theorem dL_all_139 : decode cL_all 139 = .ok (.goto (-39), 3) := by decide +kernel
theorem dL_all_142 : decode cL_all 142 = .ok (.lload_n 2, 1) := by decide +kernel
theorem dL_all_143 : decode cL_all 143 = .ok (.lreturn, 1) := by decide +kernel
theorem dL_isRefused_0 : decode cL_isRefused 0 = .ok (.iload_n 3, 1) := by decide +kernel
theorem dL_isRefused_1 : decode cL_isRefused 1 = .ok (.iconst 2, 1) := by decide +kernel
theorem dL_isRefused_2 : decode cL_isRefused 2 = .ok (.irem, 1) := by decide +kernel
theorem dL_isRefused_3 : decode cL_isRefused 3 = .ok (.ifCond .ne 7, 3) := by decide +kernel
theorem dL_isRefused_6 : decode cL_isRefused 6 = .ok (.iconst 1, 1) := by decide +kernel
theorem dL_isRefused_7 : decode cL_isRefused 7 = .ok (.goto 4, 3) := by decide +kernel
theorem dL_isRefused_10 : decode cL_isRefused 10 = .ok (.iconst 0, 1) := by decide +kernel
theorem dL_isRefused_11 : decode cL_isRefused 11 = .ok (.istore 4, 2) := by decide +kernel
theorem dL_isRefused_13 : decode cL_isRefused 13 = .ok (.iload 4, 2) := by decide +kernel
theorem dL_isRefused_15 : decode cL_isRefused 15 = .ok (.ifCond .eq 12, 3) := by decide +kernel
theorem dL_isRefused_18 : decode cL_isRefused 18 = .ok (.iconst (-1), 1) := by decide +kernel
theorem dL_isRefused_19 : decode cL_isRefused 19 = .ok (.iload_n 3, 1) := by decide +kernel
theorem dL_isRefused_20 : decode cL_isRefused 20 = .ok (.bipush 30, 2) := by decide +kernel
theorem dL_isRefused_22 : decode cL_isRefused 22 = .ok (.irem, 1) := by decide +kernel
theorem dL_isRefused_23 : decode cL_isRefused 23 = .ok (.isub, 1) := by decide +kernel
theorem dL_isRefused_24 : decode cL_isRefused 24 = .ok (.goto 11, 3) := by decide +kernel
theorem dL_isRefused_27 : decode cL_isRefused 27 = .ok (.aload_n 1, 1) := by decide +kernel
theorem dL_isRefused_28 : decode cL_isRefused 28 = .ok (.iconst 1, 1) := by decide +kernel
theorem dL_isRefused_29 : decode cL_isRefused 29 = .ok (.iaload, 1) := by decide +kernel
theorem dL_isRefused_30 : decode cL_isRefused 30 = .ok (.iload_n 3, 1) := by decide +kernel
theorem dL_isRefused_31 : decode cL_isRefused 31 = .ok (.bipush 30, 2) := by decide +kernel
theorem dL_isRefused_33 : decode cL_isRefused 33 = .ok (.irem, 1) := by decide +kernel
theorem dL_isRefused_34 : decode cL_isRefused 34 = .ok (.iadd, 1) := by decide +kernel
theorem dL_isRefused_35 : decode cL_isRefused 35 = .ok (.istore 5, 2) := by decide +kernel
theorem dL_isRefused_37 : decode cL_isRefused 37 = .ok (.iload 4, 2) := by decide +kernel
theorem dL_isRefused_39 : decode cL_isRefused 39 = .ok (.ifCond .eq 12, 3) := by decide +kernel
theorem dL_isRefused_42 : decode cL_isRefused 42 = .ok (.iconst (-1), 1) := by decide +kernel
theorem dL_isRefused_43 : decode cL_isRefused 43 = .ok (.iload_n 3, 1) := by decide +kernel
theorem dL_isRefused_44 : decode cL_isRefused 44 = .ok (.bipush 30, 2) := by decide +kernel
theorem dL_isRefused_46 : decode cL_isRefused 46 = .ok (.irem, 1) := by decide +kernel
theorem dL_isRefused_47 : decode cL_isRefused 47 = .ok (.isub, 1) := by decide +kernel
theorem dL_isRefused_48 : decode cL_isRefused 48 = .ok (.goto 11, 3) := by decide +kernel
theorem dL_isRefused_51 : decode cL_isRefused 51 = .ok (.aload_n 1, 1) := by decide +kernel
theorem dL_isRefused_52 : decode cL_isRefused 52 = .ok (.iconst 0, 1) := by decide +kernel
theorem dL_isRefused_53 : decode cL_isRefused 53 = .ok (.iaload, 1) := by decide +kernel
theorem dL_isRefused_54 : decode cL_isRefused 54 = .ok (.iload_n 3, 1) := by decide +kernel
theorem dL_isRefused_55 : decode cL_isRefused 55 = .ok (.bipush 30, 2) := by decide +kernel
theorem dL_isRefused_57 : decode cL_isRefused 57 = .ok (.irem, 1) := by decide +kernel
theorem dL_isRefused_58 : decode cL_isRefused 58 = .ok (.iadd, 1) := by decide +kernel
theorem dL_isRefused_59 : decode cL_isRefused 59 = .ok (.istore 6, 2) := by decide +kernel
theorem dL_isRefused_61 : decode cL_isRefused 61 = .ok (.iload 4, 2) := by decide +kernel
theorem dL_isRefused_63 : decode cL_isRefused 63 = .ok (.ifCond .eq 12, 3) := by decide +kernel
theorem dL_isRefused_66 : decode cL_isRefused 66 = .ok (.iconst (-1), 1) := by decide +kernel
theorem dL_isRefused_67 : decode cL_isRefused 67 = .ok (.iload_n 3, 1) := by decide +kernel
theorem dL_isRefused_68 : decode cL_isRefused 68 = .ok (.bipush 30, 2) := by decide +kernel
theorem dL_isRefused_70 : decode cL_isRefused 70 = .ok (.irem, 1) := by decide +kernel
theorem dL_isRefused_71 : decode cL_isRefused 71 = .ok (.isub, 1) := by decide +kernel
theorem dL_isRefused_72 : decode cL_isRefused 72 = .ok (.goto 11, 3) := by decide +kernel
theorem dL_isRefused_75 : decode cL_isRefused 75 = .ok (.aload_n 1, 1) := by decide +kernel
theorem dL_isRefused_76 : decode cL_isRefused 76 = .ok (.iconst 2, 1) := by decide +kernel
theorem dL_isRefused_77 : decode cL_isRefused 77 = .ok (.iaload, 1) := by decide +kernel
theorem dL_isRefused_78 : decode cL_isRefused 78 = .ok (.iload_n 3, 1) := by decide +kernel
theorem dL_isRefused_79 : decode cL_isRefused 79 = .ok (.bipush 30, 2) := by decide +kernel
theorem dL_isRefused_81 : decode cL_isRefused 81 = .ok (.irem, 1) := by decide +kernel
theorem dL_isRefused_82 : decode cL_isRefused 82 = .ok (.iadd, 1) := by decide +kernel
theorem dL_isRefused_83 : decode cL_isRefused 83 = .ok (.istore 7, 2) := by decide +kernel
theorem dL_isRefused_85 : decode cL_isRefused 85 = .ok (.iload 4, 2) := by decide +kernel
theorem dL_isRefused_87 : decode cL_isRefused 87 = .ok (.ifCond .eq 12, 3) := by decide +kernel
theorem dL_isRefused_90 : decode cL_isRefused 90 = .ok (.iconst (-1), 1) := by decide +kernel
theorem dL_isRefused_91 : decode cL_isRefused 91 = .ok (.iload_n 3, 1) := by decide +kernel
theorem dL_isRefused_92 : decode cL_isRefused 92 = .ok (.bipush 30, 2) := by decide +kernel
theorem dL_isRefused_94 : decode cL_isRefused 94 = .ok (.irem, 1) := by decide +kernel
theorem dL_isRefused_95 : decode cL_isRefused 95 = .ok (.isub, 1) := by decide +kernel
theorem dL_isRefused_96 : decode cL_isRefused 96 = .ok (.goto 11, 3) := by decide +kernel
theorem dL_isRefused_99 : decode cL_isRefused 99 = .ok (.aload_n 1, 1) := by decide +kernel
theorem dL_isRefused_100 : decode cL_isRefused 100 = .ok (.iconst 3, 1) := by decide +kernel
theorem dL_isRefused_101 : decode cL_isRefused 101 = .ok (.iaload, 1) := by decide +kernel
theorem dL_isRefused_102 : decode cL_isRefused 102 = .ok (.iload_n 3, 1) := by decide +kernel
theorem dL_isRefused_103 : decode cL_isRefused 103 = .ok (.bipush 30, 2) := by decide +kernel
theorem dL_isRefused_105 : decode cL_isRefused 105 = .ok (.irem, 1) := by decide +kernel
theorem dL_isRefused_106 : decode cL_isRefused 106 = .ok (.iadd, 1) := by decide +kernel
theorem dL_isRefused_107 : decode cL_isRefused 107 = .ok (.istore 8, 2) := by decide +kernel
theorem dL_isRefused_109 : decode cL_isRefused 109 = .ok (.iload 4, 2) := by decide +kernel
theorem dL_isRefused_111 : decode cL_isRefused 111 = .ok (.ifCond .eq 12, 3) := by decide +kernel
theorem dL_isRefused_114 : decode cL_isRefused 114 = .ok (.iconst (-1), 1) := by decide +kernel
theorem dL_isRefused_115 : decode cL_isRefused 115 = .ok (.iload_n 3, 1) := by decide +kernel
theorem dL_isRefused_116 : decode cL_isRefused 116 = .ok (.bipush 30, 2) := by decide +kernel
theorem dL_isRefused_118 : decode cL_isRefused 118 = .ok (.irem, 1) := by decide +kernel
theorem dL_isRefused_119 : decode cL_isRefused 119 = .ok (.isub, 1) := by decide +kernel
theorem dL_isRefused_120 : decode cL_isRefused 120 = .ok (.goto 10, 3) := by decide +kernel
theorem dL_isRefused_123 : decode cL_isRefused 123 = .ok (.bipush 6, 2) := by decide +kernel
theorem dL_isRefused_125 : decode cL_isRefused 125 = .ok (.iload_n 3, 1) := by decide +kernel
theorem dL_isRefused_126 : decode cL_isRefused 126 = .ok (.bipush 30, 2) := by decide +kernel
theorem dL_isRefused_128 : decode cL_isRefused 128 = .ok (.irem, 1) := by decide +kernel
theorem dL_isRefused_129 : decode cL_isRefused 129 = .ok (.iadd, 1) := by decide +kernel
theorem dL_isRefused_130 : decode cL_isRefused 130 = .ok (.istore 9, 2) := by decide +kernel
theorem dL_isRefused_132 : decode cL_isRefused 132 = .ok (.iload 4, 2) := by decide +kernel
theorem dL_isRefused_134 : decode cL_isRefused 134 = .ok (.ifCond .eq 12, 3) := by decide +kernel
theorem dL_isRefused_137 : decode cL_isRefused 137 = .ok (.iconst 0, 1) := by decide +kernel
theorem dL_isRefused_138 : decode cL_isRefused 138 = .ok (.iload_n 3, 1) := by decide +kernel
theorem dL_isRefused_139 : decode cL_isRefused 139 = .ok (.bipush 30, 2) := by decide +kernel
theorem dL_isRefused_141 : decode cL_isRefused 141 = .ok (.irem, 1) := by decide +kernel
theorem dL_isRefused_142 : decode cL_isRefused 142 = .ok (.isub, 1) := by decide +kernel
theorem dL_isRefused_143 : decode cL_isRefused 143 = .ok (.goto 10, 3) := by decide +kernel
theorem dL_isRefused_146 : decode cL_isRefused 146 = .ok (.bipush 101, 2) := by decide +kernel
theorem dL_isRefused_148 : decode cL_isRefused 148 = .ok (.iload_n 3, 1) := by decide +kernel
theorem dL_isRefused_149 : decode cL_isRefused 149 = .ok (.bipush 30, 2) := by decide +kernel
theorem dL_isRefused_151 : decode cL_isRefused 151 = .ok (.irem, 1) := by decide +kernel
theorem dL_isRefused_152 : decode cL_isRefused 152 = .ok (.iadd, 1) := by decide +kernel
theorem dL_isRefused_153 : decode cL_isRefused 153 = .ok (.istore 10, 2) := by decide +kernel
theorem dL_isRefused_155 : decode cL_isRefused 155 = .ok (.aload_n 0, 1) := by decide +kernel
theorem dL_isRefused_156 : decode cL_isRefused 156 = .ok (.aload_n 1, 1) := by decide +kernel
theorem dL_isRefused_157 : decode cL_isRefused 157 = .ok (.invokestatic 91, 3) := by decide +kernel
theorem dL_isRefused_160 : decode cL_isRefused 160 = .ok (.lstore 11, 2) := by decide +kernel
theorem dL_isRefused_162 : decode cL_isRefused 162 = .ok (.aload_n 0, 1) := by decide +kernel
theorem dL_isRefused_163 : decode cL_isRefused 163 = .ok (.iconst 0, 1) := by decide +kernel
theorem dL_isRefused_164 : decode cL_isRefused 164 = .ok (.iload 4, 2) := by decide +kernel
theorem dL_isRefused_166 : decode cL_isRefused 166 = .ok (.ifCond .eq 13, 3) := by decide +kernel
theorem dL_isRefused_169 : decode cL_isRefused 169 = .ok (.bipush 96, 2) := by decide +kernel
theorem dL_isRefused_171 : decode cL_isRefused 171 = .ok (.iload_n 3, 1) := by decide +kernel
theorem dL_isRefused_172 : decode cL_isRefused 172 = .ok (.bipush 30, 2) := by decide +kernel
theorem dL_isRefused_174 : decode cL_isRefused 174 = .ok (.irem, 1) := by decide +kernel
theorem dL_isRefused_175 : decode cL_isRefused 175 = .ok (.isub, 1) := by decide +kernel
theorem dL_isRefused_176 : decode cL_isRefused 176 = .ok (.goto 10, 3) := by decide +kernel
theorem dL_isRefused_179 : decode cL_isRefused 179 = .ok (.bipush 123, 2) := by decide +kernel
theorem dL_isRefused_181 : decode cL_isRefused 181 = .ok (.iload_n 3, 1) := by decide +kernel
theorem dL_isRefused_182 : decode cL_isRefused 182 = .ok (.bipush 30, 2) := by decide +kernel
theorem dL_isRefused_184 : decode cL_isRefused 184 = .ok (.irem, 1) := by decide +kernel
theorem dL_isRefused_185 : decode cL_isRefused 185 = .ok (.iadd, 1) := by decide +kernel
theorem dL_isRefused_186 : decode cL_isRefused 186 = .ok (.iconst 0, 1) := by decide +kernel
theorem dL_isRefused_187 : decode cL_isRefused 187 = .ok (.iconst 0, 1) := by decide +kernel
theorem dL_isRefused_188 : decode cL_isRefused 188 = .ok (.invokestatic 97, 3) := by decide +kernel
theorem dL_isRefused_191 : decode cL_isRefused 191 = .ok (.ldc 83, 2) := by decide +kernel
theorem dL_isRefused_193 : decode cL_isRefused 193 = .ok (.if_icmp .ne 450, 3) := by decide +kernel
theorem dL_isRefused_196 : decode cL_isRefused 196 = .ok (.aload_n 0, 1) := by decide +kernel
theorem dL_isRefused_197 : decode cL_isRefused 197 = .ok (.iconst 1, 1) := by decide +kernel
theorem dL_isRefused_198 : decode cL_isRefused 198 = .ok (.iload 4, 2) := by decide +kernel
theorem dL_isRefused_200 : decode cL_isRefused 200 = .ok (.ifCond .eq 12, 3) := by decide +kernel
theorem dL_isRefused_203 : decode cL_isRefused 203 = .ok (.iconst 0, 1) := by decide +kernel
theorem dL_isRefused_204 : decode cL_isRefused 204 = .ok (.iload_n 3, 1) := by decide +kernel
theorem dL_isRefused_205 : decode cL_isRefused 205 = .ok (.bipush 30, 2) := by decide +kernel
theorem dL_isRefused_207 : decode cL_isRefused 207 = .ok (.irem, 1) := by decide +kernel
theorem dL_isRefused_208 : decode cL_isRefused 208 = .ok (.isub, 1) := by decide +kernel
theorem dL_isRefused_209 : decode cL_isRefused 209 = .ok (.goto 6, 3) := by decide +kernel
theorem dL_isRefused_212 : decode cL_isRefused 212 = .ok (.sipush 5001, 3) := by decide +kernel
theorem dL_isRefused_215 : decode cL_isRefused 215 = .ok (.iconst 0, 1) := by decide +kernel
theorem dL_isRefused_216 : decode cL_isRefused 216 = .ok (.iconst 0, 1) := by decide +kernel
theorem dL_isRefused_217 : decode cL_isRefused 217 = .ok (.invokestatic 97, 3) := by decide +kernel
theorem dL_isRefused_220 : decode cL_isRefused 220 = .ok (.ldc 83, 2) := by decide +kernel
theorem dL_isRefused_222 : decode cL_isRefused 222 = .ok (.if_icmp .ne 421, 3) := by decide +kernel
theorem dL_isRefused_225 : decode cL_isRefused 225 = .ok (.aload_n 0, 1) := by decide +kernel
theorem dL_isRefused_226 : decode cL_isRefused 226 = .ok (.iconst 2, 1) := by decide +kernel
theorem dL_isRefused_227 : decode cL_isRefused 227 = .ok (.iload 6, 2) := by decide +kernel
theorem dL_isRefused_229 : decode cL_isRefused 229 = .ok (.iconst 0, 1) := by decide +kernel
theorem dL_isRefused_230 : decode cL_isRefused 230 = .ok (.bipush 9, 2) := by decide +kernel
theorem dL_isRefused_232 : decode cL_isRefused 232 = .ok (.invokestatic 97, 3) := by decide +kernel
theorem dL_isRefused_235 : decode cL_isRefused 235 = .ok (.ldc 80, 2) := by decide +kernel
theorem dL_isRefused_237 : decode cL_isRefused 237 = .ok (.if_icmp .ne 406, 3) := by decide +kernel
theorem dL_isRefused_240 : decode cL_isRefused 240 = .ok (.aload_n 0, 1) := by decide +kernel
theorem dL_isRefused_241 : decode cL_isRefused 241 = .ok (.iconst 4, 1) := by decide +kernel
theorem dL_isRefused_242 : decode cL_isRefused 242 = .ok (.iload 5, 2) := by decide +kernel
theorem dL_isRefused_244 : decode cL_isRefused 244 = .ok (.iconst 0, 1) := by decide +kernel
theorem dL_isRefused_245 : decode cL_isRefused 245 = .ok (.iconst 0, 1) := by decide +kernel
theorem dL_isRefused_246 : decode cL_isRefused 246 = .ok (.invokestatic 97, 3) := by decide +kernel
theorem dL_isRefused_249 : decode cL_isRefused 249 = .ok (.ldc 80, 2) := by decide +kernel
theorem dL_isRefused_251 : decode cL_isRefused 251 = .ok (.if_icmp .ne 392, 3) := by decide +kernel
theorem dL_isRefused_254 : decode cL_isRefused 254 = .ok (.aload_n 0, 1) := by decide +kernel
theorem dL_isRefused_255 : decode cL_isRefused 255 = .ok (.iconst 5, 1) := by decide +kernel
theorem dL_isRefused_256 : decode cL_isRefused 256 = .ok (.iload 4, 2) := by decide +kernel
theorem dL_isRefused_258 : decode cL_isRefused 258 = .ok (.ifCond .eq 14, 3) := by decide +kernel
theorem dL_isRefused_261 : decode cL_isRefused 261 = .ok (.sipush 299, 3) := by decide +kernel
theorem dL_isRefused_264 : decode cL_isRefused 264 = .ok (.iload_n 3, 1) := by decide +kernel
theorem dL_isRefused_265 : decode cL_isRefused 265 = .ok (.bipush 30, 2) := by decide +kernel
theorem dL_isRefused_267 : decode cL_isRefused 267 = .ok (.irem, 1) := by decide +kernel
theorem dL_isRefused_268 : decode cL_isRefused 268 = .ok (.isub, 1) := by decide +kernel
theorem dL_isRefused_269 : decode cL_isRefused 269 = .ok (.goto 6, 3) := by decide +kernel
theorem dL_isRefused_272 : decode cL_isRefused 272 = .ok (.sipush 701, 3) := by decide +kernel
theorem dL_isRefused_275 : decode cL_isRefused 275 = .ok (.iconst 3, 1) := by decide +kernel
theorem dL_isRefused_276 : decode cL_isRefused 276 = .ok (.iconst 0, 1) := by decide +kernel
theorem dL_isRefused_277 : decode cL_isRefused 277 = .ok (.invokestatic 97, 3) := by decide +kernel
theorem dL_isRefused_280 : decode cL_isRefused 280 = .ok (.ldc 83, 2) := by decide +kernel
theorem dL_isRefused_282 : decode cL_isRefused 282 = .ok (.if_icmp .ne 361, 3) := by decide +kernel
theorem dL_isRefused_285 : decode cL_isRefused 285 = .ok (.aload_n 0, 1) := by decide +kernel
theorem dL_isRefused_286 : decode cL_isRefused 286 = .ok (.iconst 5, 1) := by decide +kernel
theorem dL_isRefused_287 : decode cL_isRefused 287 = .ok (.sipush 500, 3) := by decide +kernel
theorem dL_isRefused_290 : decode cL_isRefused 290 = .ok (.iload 4, 2) := by decide +kernel
theorem dL_isRefused_292 : decode cL_isRefused 292 = .ok (.ifCond .eq 12, 3) := by decide +kernel
theorem dL_isRefused_295 : decode cL_isRefused 295 = .ok (.iconst 0, 1) := by decide +kernel
theorem dL_isRefused_296 : decode cL_isRefused 296 = .ok (.iload_n 3, 1) := by decide +kernel
theorem dL_isRefused_297 : decode cL_isRefused 297 = .ok (.bipush 30, 2) := by decide +kernel
theorem dL_isRefused_299 : decode cL_isRefused 299 = .ok (.irem, 1) := by decide +kernel
theorem dL_isRefused_300 : decode cL_isRefused 300 = .ok (.isub, 1) := by decide +kernel
theorem dL_isRefused_301 : decode cL_isRefused 301 = .ok (.goto 5, 3) := by decide +kernel
theorem dL_isRefused_304 : decode cL_isRefused 304 = .ok (.bipush 7, 2) := by decide +kernel
theorem dL_isRefused_306 : decode cL_isRefused 306 = .ok (.iconst 0, 1) := by decide +kernel
theorem dL_isRefused_307 : decode cL_isRefused 307 = .ok (.invokestatic 97, 3) := by decide +kernel
theorem dL_isRefused_310 : decode cL_isRefused 310 = .ok (.ldc 83, 2) := by decide +kernel
theorem dL_isRefused_312 : decode cL_isRefused 312 = .ok (.if_icmp .ne 331, 3) := by decide +kernel
theorem dL_isRefused_315 : decode cL_isRefused 315 = .ok (.aload_n 0, 1) := by decide +kernel
theorem dL_isRefused_316 : decode cL_isRefused 316 = .ok (.bipush 6, 2) := by decide +kernel
theorem dL_isRefused_318 : decode cL_isRefused 318 = .ok (.iload 5, 2) := by decide +kernel
theorem dL_isRefused_320 : decode cL_isRefused 320 = .ok (.iconst 0, 1) := by decide +kernel
theorem dL_isRefused_321 : decode cL_isRefused 321 = .ok (.iconst 0, 1) := by decide +kernel
theorem dL_isRefused_322 : decode cL_isRefused 322 = .ok (.invokestatic 97, 3) := by decide +kernel
theorem dL_isRefused_325 : decode cL_isRefused 325 = .ok (.ldc 80, 2) := by decide +kernel
theorem dL_isRefused_327 : decode cL_isRefused 327 = .ok (.if_icmp .ne 316, 3) := by decide +kernel
theorem dL_isRefused_330 : decode cL_isRefused 330 = .ok (.aload_n 0, 1) := by decide +kernel
theorem dL_isRefused_331 : decode cL_isRefused 331 = .ok (.bipush 7, 2) := by decide +kernel
theorem dL_isRefused_333 : decode cL_isRefused 333 = .ok (.iload 5, 2) := by decide +kernel
theorem dL_isRefused_335 : decode cL_isRefused 335 = .ok (.iconst 0, 1) := by decide +kernel
theorem dL_isRefused_336 : decode cL_isRefused 336 = .ok (.iconst 0, 1) := by decide +kernel
theorem dL_isRefused_337 : decode cL_isRefused 337 = .ok (.invokestatic 97, 3) := by decide +kernel
theorem dL_isRefused_340 : decode cL_isRefused 340 = .ok (.ldc 80, 2) := by decide +kernel
theorem dL_isRefused_342 : decode cL_isRefused 342 = .ok (.if_icmp .ne 301, 3) := by decide +kernel
theorem dL_isRefused_345 : decode cL_isRefused 345 = .ok (.aload_n 0, 1) := by decide +kernel
theorem dL_isRefused_346 : decode cL_isRefused 346 = .ok (.bipush 8, 2) := by decide +kernel
theorem dL_isRefused_348 : decode cL_isRefused 348 = .ok (.iload 4, 2) := by decide +kernel
theorem dL_isRefused_350 : decode cL_isRefused 350 = .ok (.ifCond .eq 12, 3) := by decide +kernel
theorem dL_isRefused_353 : decode cL_isRefused 353 = .ok (.iconst 0, 1) := by decide +kernel
theorem dL_isRefused_354 : decode cL_isRefused 354 = .ok (.iload_n 3, 1) := by decide +kernel
theorem dL_isRefused_355 : decode cL_isRefused 355 = .ok (.bipush 30, 2) := by decide +kernel
theorem dL_isRefused_357 : decode cL_isRefused 357 = .ok (.irem, 1) := by decide +kernel
theorem dL_isRefused_358 : decode cL_isRefused 358 = .ok (.isub, 1) := by decide +kernel
theorem dL_isRefused_359 : decode cL_isRefused 359 = .ok (.goto 5, 3) := by decide +kernel
theorem dL_isRefused_362 : decode cL_isRefused 362 = .ok (.bipush 31, 2) := by decide +kernel
theorem dL_isRefused_364 : decode cL_isRefused 364 = .ok (.iconst 0, 1) := by decide +kernel
theorem dL_isRefused_365 : decode cL_isRefused 365 = .ok (.iconst 0, 1) := by decide +kernel
theorem dL_isRefused_366 : decode cL_isRefused 366 = .ok (.invokestatic 97, 3) := by decide +kernel
theorem dL_isRefused_369 : decode cL_isRefused 369 = .ok (.ldc 83, 2) := by decide +kernel
theorem dL_isRefused_371 : decode cL_isRefused 371 = .ok (.if_icmp .ne 272, 3) := by decide +kernel
theorem dL_isRefused_374 : decode cL_isRefused 374 = .ok (.aload_n 0, 1) := by decide +kernel
theorem dL_isRefused_375 : decode cL_isRefused 375 = .ok (.bipush 9, 2) := by decide +kernel
theorem dL_isRefused_377 : decode cL_isRefused 377 = .ok (.iload 5, 2) := by decide +kernel
theorem dL_isRefused_379 : decode cL_isRefused 379 = .ok (.iconst 0, 1) := by decide +kernel
theorem dL_isRefused_380 : decode cL_isRefused 380 = .ok (.bipush 9, 2) := by decide +kernel
theorem dL_isRefused_382 : decode cL_isRefused 382 = .ok (.invokestatic 97, 3) := by decide +kernel
theorem dL_isRefused_385 : decode cL_isRefused 385 = .ok (.ldc 80, 2) := by decide +kernel
theorem dL_isRefused_387 : decode cL_isRefused 387 = .ok (.if_icmp .ne 256, 3) := by decide +kernel
theorem dL_isRefused_390 : decode cL_isRefused 390 = .ok (.aload_n 0, 1) := by decide +kernel
theorem dL_isRefused_391 : decode cL_isRefused 391 = .ok (.bipush 10, 2) := by decide +kernel
theorem dL_isRefused_393 : decode cL_isRefused 393 = .ok (.iload 5, 2) := by decide +kernel
theorem dL_isRefused_395 : decode cL_isRefused 395 = .ok (.iconst 0, 1) := by decide +kernel
theorem dL_isRefused_396 : decode cL_isRefused 396 = .ok (.iconst 0, 1) := by decide +kernel
theorem dL_isRefused_397 : decode cL_isRefused 397 = .ok (.invokestatic 97, 3) := by decide +kernel
theorem dL_isRefused_400 : decode cL_isRefused 400 = .ok (.ldc 80, 2) := by decide +kernel
theorem dL_isRefused_402 : decode cL_isRefused 402 = .ok (.if_icmp .ne 241, 3) := by decide +kernel
theorem dL_isRefused_405 : decode cL_isRefused 405 = .ok (.aload_n 0, 1) := by decide +kernel
theorem dL_isRefused_406 : decode cL_isRefused 406 = .ok (.bipush 11, 2) := by decide +kernel
theorem dL_isRefused_408 : decode cL_isRefused 408 = .ok (.iload 5, 2) := by decide +kernel
theorem dL_isRefused_410 : decode cL_isRefused 410 = .ok (.iconst 0, 1) := by decide +kernel
theorem dL_isRefused_411 : decode cL_isRefused 411 = .ok (.iconst 0, 1) := by decide +kernel
theorem dL_isRefused_412 : decode cL_isRefused 412 = .ok (.invokestatic 97, 3) := by decide +kernel
theorem dL_isRefused_415 : decode cL_isRefused 415 = .ok (.ldc 80, 2) := by decide +kernel
theorem dL_isRefused_417 : decode cL_isRefused 417 = .ok (.if_icmp .ne 226, 3) := by decide +kernel
theorem dL_isRefused_420 : decode cL_isRefused 420 = .ok (.aload_n 0, 1) := by decide +kernel
theorem dL_isRefused_421 : decode cL_isRefused 421 = .ok (.bipush 12, 2) := by decide +kernel
theorem dL_isRefused_423 : decode cL_isRefused 423 = .ok (.iload 10, 2) := by decide +kernel
theorem dL_isRefused_425 : decode cL_isRefused 425 = .ok (.iconst 0, 1) := by decide +kernel
theorem dL_isRefused_426 : decode cL_isRefused 426 = .ok (.iconst 0, 1) := by decide +kernel
theorem dL_isRefused_427 : decode cL_isRefused 427 = .ok (.invokestatic 97, 3) := by decide +kernel
theorem dL_isRefused_430 : decode cL_isRefused 430 = .ok (.ldc 83, 2) := by decide +kernel
theorem dL_isRefused_432 : decode cL_isRefused 432 = .ok (.if_icmp .ne 211, 3) := by decide +kernel
theorem dL_isRefused_435 : decode cL_isRefused 435 = .ok (.aload_n 0, 1) := by decide +kernel
theorem dL_isRefused_436 : decode cL_isRefused 436 = .ok (.bipush 13, 2) := by decide +kernel
theorem dL_isRefused_438 : decode cL_isRefused 438 = .ok (.iload 10, 2) := by decide +kernel
theorem dL_isRefused_440 : decode cL_isRefused 440 = .ok (.iconst 0, 1) := by decide +kernel
theorem dL_isRefused_441 : decode cL_isRefused 441 = .ok (.iconst 0, 1) := by decide +kernel
theorem dL_isRefused_442 : decode cL_isRefused 442 = .ok (.invokestatic 97, 3) := by decide +kernel
theorem dL_isRefused_445 : decode cL_isRefused 445 = .ok (.ldc 83, 2) := by decide +kernel
theorem dL_isRefused_447 : decode cL_isRefused 447 = .ok (.if_icmp .ne 196, 3) := by decide +kernel
theorem dL_isRefused_450 : decode cL_isRefused 450 = .ok (.aload_n 0, 1) := by decide +kernel
theorem dL_isRefused_451 : decode cL_isRefused 451 = .ok (.bipush 14, 2) := by decide +kernel
theorem dL_isRefused_453 : decode cL_isRefused 453 = .ok (.iload 4, 2) := by decide +kernel
theorem dL_isRefused_455 : decode cL_isRefused 455 = .ok (.ifCond .eq 12, 3) := by decide +kernel
theorem dL_isRefused_458 : decode cL_isRefused 458 = .ok (.iconst 0, 1) := by decide +kernel
theorem dL_isRefused_459 : decode cL_isRefused 459 = .ok (.iload_n 3, 1) := by decide +kernel
theorem dL_isRefused_460 : decode cL_isRefused 460 = .ok (.bipush 30, 2) := by decide +kernel
theorem dL_isRefused_462 : decode cL_isRefused 462 = .ok (.irem, 1) := by decide +kernel
theorem dL_isRefused_463 : decode cL_isRefused 463 = .ok (.isub, 1) := by decide +kernel
theorem dL_isRefused_464 : decode cL_isRefused 464 = .ok (.goto 6, 3) := by decide +kernel
theorem dL_isRefused_467 : decode cL_isRefused 467 = .ok (.sipush 2001, 3) := by decide +kernel
theorem dL_isRefused_470 : decode cL_isRefused 470 = .ok (.iconst 0, 1) := by decide +kernel
theorem dL_isRefused_471 : decode cL_isRefused 471 = .ok (.iconst 0, 1) := by decide +kernel
theorem dL_isRefused_472 : decode cL_isRefused 472 = .ok (.invokestatic 97, 3) := by decide +kernel
theorem dL_isRefused_475 : decode cL_isRefused 475 = .ok (.ldc 83, 2) := by decide +kernel
theorem dL_isRefused_477 : decode cL_isRefused 477 = .ok (.if_icmp .ne 166, 3) := by decide +kernel
theorem dL_isRefused_480 : decode cL_isRefused 480 = .ok (.aload_n 0, 1) := by decide +kernel
theorem dL_isRefused_481 : decode cL_isRefused 481 = .ok (.bipush 15, 2) := by decide +kernel
theorem dL_isRefused_483 : decode cL_isRefused 483 = .ok (.iload 4, 2) := by decide +kernel
theorem dL_isRefused_485 : decode cL_isRefused 485 = .ok (.ifCond .eq 12, 3) := by decide +kernel
theorem dL_isRefused_488 : decode cL_isRefused 488 = .ok (.iconst (-1), 1) := by decide +kernel
theorem dL_isRefused_489 : decode cL_isRefused 489 = .ok (.iload_n 3, 1) := by decide +kernel
theorem dL_isRefused_490 : decode cL_isRefused 490 = .ok (.bipush 30, 2) := by decide +kernel
theorem dL_isRefused_492 : decode cL_isRefused 492 = .ok (.irem, 1) := by decide +kernel
theorem dL_isRefused_493 : decode cL_isRefused 493 = .ok (.isub, 1) := by decide +kernel
theorem dL_isRefused_494 : decode cL_isRefused 494 = .ok (.goto 5, 3) := by decide +kernel
theorem dL_isRefused_497 : decode cL_isRefused 497 = .ok (.bipush 8, 2) := by decide +kernel
theorem dL_isRefused_499 : decode cL_isRefused 499 = .ok (.sipush 999, 3) := by decide +kernel
theorem dL_isRefused_502 : decode cL_isRefused 502 = .ok (.iconst 0, 1) := by decide +kernel
theorem dL_isRefused_503 : decode cL_isRefused 503 = .ok (.invokestatic 97, 3) := by decide +kernel
theorem dL_isRefused_506 : decode cL_isRefused 506 = .ok (.ldc 80, 2) := by decide +kernel
theorem dL_isRefused_508 : decode cL_isRefused 508 = .ok (.if_icmp .ne 135, 3) := by decide +kernel
theorem dL_isRefused_511 : decode cL_isRefused 511 = .ok (.aload_n 0, 1) := by decide +kernel
theorem dL_isRefused_512 : decode cL_isRefused 512 = .ok (.bipush 15, 2) := by decide +kernel
theorem dL_isRefused_514 : decode cL_isRefused 514 = .ok (.iload_n 3, 1) := by decide +kernel
theorem dL_isRefused_515 : decode cL_isRefused 515 = .ok (.bipush 8, 2) := by decide +kernel
theorem dL_isRefused_517 : decode cL_isRefused 517 = .ok (.irem, 1) := by decide +kernel
theorem dL_isRefused_518 : decode cL_isRefused 518 = .ok (.iload 4, 2) := by decide +kernel
theorem dL_isRefused_520 : decode cL_isRefused 520 = .ok (.ifCond .eq 7, 3) := by decide +kernel
theorem dL_isRefused_523 : decode cL_isRefused 523 = .ok (.iconst (-1), 1) := by decide +kernel
theorem dL_isRefused_524 : decode cL_isRefused 524 = .ok (.goto 11, 3) := by decide +kernel
theorem dL_isRefused_527 : decode cL_isRefused 527 = .ok (.sipush 201, 3) := by decide +kernel
theorem dL_isRefused_530 : decode cL_isRefused 530 = .ok (.iload_n 3, 1) := by decide +kernel
theorem dL_isRefused_531 : decode cL_isRefused 531 = .ok (.bipush 30, 2) := by decide +kernel
theorem dL_isRefused_533 : decode cL_isRefused 533 = .ok (.irem, 1) := by decide +kernel
theorem dL_isRefused_534 : decode cL_isRefused 534 = .ok (.iadd, 1) := by decide +kernel
theorem dL_isRefused_535 : decode cL_isRefused 535 = .ok (.iconst 0, 1) := by decide +kernel
theorem dL_isRefused_536 : decode cL_isRefused 536 = .ok (.invokestatic 97, 3) := by decide +kernel
theorem dL_isRefused_539 : decode cL_isRefused 539 = .ok (.ldc 83, 2) := by decide +kernel
theorem dL_isRefused_541 : decode cL_isRefused 541 = .ok (.if_icmp .ne 102, 3) := by decide +kernel
theorem dL_isRefused_544 : decode cL_isRefused 544 = .ok (.aload_n 0, 1) := by decide +kernel
theorem dL_isRefused_545 : decode cL_isRefused 545 = .ok (.bipush 16, 2) := by decide +kernel
theorem dL_isRefused_547 : decode cL_isRefused 547 = .ok (.iload 5, 2) := by decide +kernel
theorem dL_isRefused_549 : decode cL_isRefused 549 = .ok (.iconst 0, 1) := by decide +kernel
theorem dL_isRefused_550 : decode cL_isRefused 550 = .ok (.iconst 0, 1) := by decide +kernel
theorem dL_isRefused_551 : decode cL_isRefused 551 = .ok (.invokestatic 97, 3) := by decide +kernel
theorem dL_isRefused_554 : decode cL_isRefused 554 = .ok (.ldc 80, 2) := by decide +kernel
theorem dL_isRefused_556 : decode cL_isRefused 556 = .ok (.if_icmp .ne 87, 3) := by decide +kernel
theorem dL_isRefused_559 : decode cL_isRefused 559 = .ok (.aload_n 0, 1) := by decide +kernel
theorem dL_isRefused_560 : decode cL_isRefused 560 = .ok (.bipush 17, 2) := by decide +kernel
theorem dL_isRefused_562 : decode cL_isRefused 562 = .ok (.iload 4, 2) := by decide +kernel
theorem dL_isRefused_564 : decode cL_isRefused 564 = .ok (.ifCond .eq 12, 3) := by decide +kernel
theorem dL_isRefused_567 : decode cL_isRefused 567 = .ok (.iconst (-1), 1) := by decide +kernel
theorem dL_isRefused_568 : decode cL_isRefused 568 = .ok (.iload_n 3, 1) := by decide +kernel
theorem dL_isRefused_569 : decode cL_isRefused 569 = .ok (.bipush 30, 2) := by decide +kernel
theorem dL_isRefused_571 : decode cL_isRefused 571 = .ok (.irem, 1) := by decide +kernel
theorem dL_isRefused_572 : decode cL_isRefused 572 = .ok (.isub, 1) := by decide +kernel
theorem dL_isRefused_573 : decode cL_isRefused 573 = .ok (.goto 4, 3) := by decide +kernel
theorem dL_isRefused_576 : decode cL_isRefused 576 = .ok (.iconst 4, 1) := by decide +kernel
theorem dL_isRefused_577 : decode cL_isRefused 577 = .ok (.iconst 0, 1) := by decide +kernel
theorem dL_isRefused_578 : decode cL_isRefused 578 = .ok (.iconst 0, 1) := by decide +kernel
theorem dL_isRefused_579 : decode cL_isRefused 579 = .ok (.invokestatic 97, 3) := by decide +kernel
theorem dL_isRefused_582 : decode cL_isRefused 582 = .ok (.ldc 80, 2) := by decide +kernel
theorem dL_isRefused_584 : decode cL_isRefused 584 = .ok (.if_icmp .ne 59, 3) := by decide +kernel
theorem dL_isRefused_587 : decode cL_isRefused 587 = .ok (.aload_n 0, 1) := by decide +kernel
theorem dL_isRefused_588 : decode cL_isRefused 588 = .ok (.bipush 18, 2) := by decide +kernel
theorem dL_isRefused_590 : decode cL_isRefused 590 = .ok (.iload 8, 2) := by decide +kernel
theorem dL_isRefused_592 : decode cL_isRefused 592 = .ok (.iconst 0, 1) := by decide +kernel
theorem dL_isRefused_593 : decode cL_isRefused 593 = .ok (.iconst 0, 1) := by decide +kernel
theorem dL_isRefused_594 : decode cL_isRefused 594 = .ok (.invokestatic 97, 3) := by decide +kernel
theorem dL_isRefused_597 : decode cL_isRefused 597 = .ok (.ldc 80, 2) := by decide +kernel
theorem dL_isRefused_599 : decode cL_isRefused 599 = .ok (.if_icmp .ne 44, 3) := by decide +kernel
theorem dL_isRefused_602 : decode cL_isRefused 602 = .ok (.aload_n 0, 1) := by decide +kernel
theorem dL_isRefused_603 : decode cL_isRefused 603 = .ok (.bipush 19, 2) := by decide +kernel
theorem dL_isRefused_605 : decode cL_isRefused 605 = .ok (.iload 6, 2) := by decide +kernel
theorem dL_isRefused_607 : decode cL_isRefused 607 = .ok (.iconst 0, 1) := by decide +kernel
theorem dL_isRefused_608 : decode cL_isRefused 608 = .ok (.iconst 0, 1) := by decide +kernel
theorem dL_isRefused_609 : decode cL_isRefused 609 = .ok (.invokestatic 97, 3) := by decide +kernel
theorem dL_isRefused_612 : decode cL_isRefused 612 = .ok (.ldc 80, 2) := by decide +kernel
theorem dL_isRefused_614 : decode cL_isRefused 614 = .ok (.if_icmp .ne 29, 3) := by decide +kernel
theorem dL_isRefused_617 : decode cL_isRefused 617 = .ok (.aload_n 1, 1) := by decide +kernel
theorem dL_isRefused_618 : decode cL_isRefused 618 = .ok (.iconst 5, 1) := by decide +kernel
theorem dL_isRefused_619 : decode cL_isRefused 619 = .ok (.iaload, 1) := by decide +kernel
theorem dL_isRefused_620 : decode cL_isRefused 620 = .ok (.bipush 7, 2) := by decide +kernel
theorem dL_isRefused_622 : decode cL_isRefused 622 = .ok (.if_icmp .lt 17, 3) := by decide +kernel
theorem dL_isRefused_625 : decode cL_isRefused 625 = .ok (.aload_n 0, 1) := by decide +kernel
theorem dL_isRefused_626 : decode cL_isRefused 626 = .ok (.iconst 0, 1) := by decide +kernel
theorem dL_isRefused_627 : decode cL_isRefused 627 = .ok (.bipush 97, 2) := by decide +kernel
theorem dL_isRefused_629 : decode cL_isRefused 629 = .ok (.iconst 0, 1) := by decide +kernel
theorem dL_isRefused_630 : decode cL_isRefused 630 = .ok (.iconst 0, 1) := by decide +kernel
theorem dL_isRefused_631 : decode cL_isRefused 631 = .ok (.invokestatic 97, 3) := by decide +kernel
theorem dL_isRefused_634 : decode cL_isRefused 634 = .ok (.ldc 86, 2) := by decide +kernel
theorem dL_isRefused_636 : decode cL_isRefused 636 = .ok (.if_icmp .ne 7, 3) := by decide +kernel
theorem dL_isRefused_639 : decode cL_isRefused 639 = .ok (.iconst 1, 1) := by decide +kernel
theorem dL_isRefused_640 : decode cL_isRefused 640 = .ok (.goto 4, 3) := by decide +kernel
theorem dL_isRefused_643 : decode cL_isRefused 643 = .ok (.iconst 0, 1) := by decide +kernel
theorem dL_isRefused_644 : decode cL_isRefused 644 = .ok (.istore 13, 2) := by decide +kernel
theorem dL_isRefused_646 : decode cL_isRefused 646 = .ok (.iconst 0, 1) := by decide +kernel
theorem dL_isRefused_647 : decode cL_isRefused 647 = .ok (.istore 14, 2) := by decide +kernel
theorem dL_isRefused_649 : decode cL_isRefused 649 = .ok (.iload 14, 2) := by decide +kernel
theorem dL_isRefused_651 : decode cL_isRefused 651 = .ok (.aload_n 1, 1) := by decide +kernel
theorem dL_isRefused_652 : decode cL_isRefused 652 = .ok (.iconst 0, 1) := by decide +kernel
theorem dL_isRefused_653 : decode cL_isRefused 653 = .ok (.iaload, 1) := by decide +kernel
theorem dL_isRefused_654 : decode cL_isRefused 654 = .ok (.if_icmp .ge 116, 3) := by decide +kernel
theorem dL_isRefused_657 : decode cL_isRefused 657 = .ok (.iload 13, 2) := by decide +kernel
theorem dL_isRefused_659 : decode cL_isRefused 659 = .ok (.ifCond .eq 111, 3) := by decide +kernel
theorem dL_isRefused_662 : decode cL_isRefused 662 = .ok (.aload_n 0, 1) := by decide +kernel
theorem dL_isRefused_663 : decode cL_isRefused 663 = .ok (.iload 14, 2) := by decide +kernel
theorem dL_isRefused_665 : decode cL_isRefused 665 = .ok (.invokevirtual 75, 3) := by decide +kernel
theorem dL_isRefused_668 : decode cL_isRefused 668 = .ok (.istore 15, 2) := by decide +kernel
theorem dL_isRefused_670 : decode cL_isRefused 670 = .ok (.aload_n 0, 1) := by decide +kernel
theorem dL_isRefused_671 : decode cL_isRefused 671 = .ok (.iconst 2, 1) := by decide +kernel
theorem dL_isRefused_672 : decode cL_isRefused 672 = .ok (.iload 14, 2) := by decide +kernel
theorem dL_isRefused_674 : decode cL_isRefused 674 = .ok (.iload 4, 2) := by decide +kernel
theorem dL_isRefused_676 : decode cL_isRefused 676 = .ok (.ifCond .eq 13, 3) := by decide +kernel
theorem dL_isRefused_679 : decode cL_isRefused 679 = .ok (.bipush 9, 2) := by decide +kernel
theorem dL_isRefused_681 : decode cL_isRefused 681 = .ok (.iload_n 3, 1) := by decide +kernel
theorem dL_isRefused_682 : decode cL_isRefused 682 = .ok (.bipush 30, 2) := by decide +kernel
theorem dL_isRefused_684 : decode cL_isRefused 684 = .ok (.irem, 1) := by decide +kernel
theorem dL_isRefused_685 : decode cL_isRefused 685 = .ok (.isub, 1) := by decide +kernel
theorem dL_isRefused_686 : decode cL_isRefused 686 = .ok (.goto 6, 3) := by decide +kernel
theorem dL_isRefused_689 : decode cL_isRefused 689 = .ok (.sipush 501, 3) := by decide +kernel
theorem dL_isRefused_692 : decode cL_isRefused 692 = .ok (.iconst 0, 1) := by decide +kernel
theorem dL_isRefused_693 : decode cL_isRefused 693 = .ok (.invokestatic 97, 3) := by decide +kernel
theorem dL_isRefused_696 : decode cL_isRefused 696 = .ok (.ldc 83, 2) := by decide +kernel
theorem dL_isRefused_698 : decode cL_isRefused 698 = .ok (.if_icmp .ne 63, 3) := by decide +kernel
theorem dL_isRefused_701 : decode cL_isRefused 701 = .ok (.aload_n 0, 1) := by decide +kernel
theorem dL_isRefused_702 : decode cL_isRefused 702 = .ok (.iconst 2, 1) := by decide +kernel
theorem dL_isRefused_703 : decode cL_isRefused 703 = .ok (.iload 14, 2) := by decide +kernel
theorem dL_isRefused_705 : decode cL_isRefused 705 = .ok (.bipush 10, 2) := by decide +kernel
theorem dL_isRefused_707 : decode cL_isRefused 707 = .ok (.iload 9, 2) := by decide +kernel
theorem dL_isRefused_709 : decode cL_isRefused 709 = .ok (.invokestatic 97, 3) := by decide +kernel
theorem dL_isRefused_712 : decode cL_isRefused 712 = .ok (.ldc 83, 2) := by decide +kernel
theorem dL_isRefused_714 : decode cL_isRefused 714 = .ok (.if_icmp .ne 47, 3) := by decide +kernel
theorem dL_isRefused_717 : decode cL_isRefused 717 = .ok (.iload 15, 2) := by decide +kernel
theorem dL_isRefused_719 : decode cL_isRefused 719 = .ok (.sipush 500, 3) := by decide +kernel
theorem dL_isRefused_722 : decode cL_isRefused 722 = .ok (.if_icmp .ge 35, 3) := by decide +kernel
theorem dL_isRefused_725 : decode cL_isRefused 725 = .ok (.aload_n 0, 1) := by decide +kernel
theorem dL_isRefused_726 : decode cL_isRefused 726 = .ok (.iconst 2, 1) := by decide +kernel
theorem dL_isRefused_727 : decode cL_isRefused 727 = .ok (.iload 14, 2) := by decide +kernel
theorem dL_isRefused_729 : decode cL_isRefused 729 = .ok (.iload 15, 2) := by decide +kernel
theorem dL_isRefused_731 : decode cL_isRefused 731 = .ok (.bipush 9, 2) := by decide +kernel
theorem dL_isRefused_733 : decode cL_isRefused 733 = .ok (.if_icmp .ge 8, 3) := by decide +kernel
theorem dL_isRefused_736 : decode cL_isRefused 736 = .ok (.bipush 10, 2) := by decide +kernel
theorem dL_isRefused_738 : decode cL_isRefused 738 = .ok (.goto 7, 3) := by decide +kernel
theorem dL_isRefused_741 : decode cL_isRefused 741 = .ok (.iload 15, 2) := by decide +kernel
theorem dL_isRefused_743 : decode cL_isRefused 743 = .ok (.iconst 1, 1) := by decide +kernel
theorem dL_isRefused_744 : decode cL_isRefused 744 = .ok (.iadd, 1) := by decide +kernel
theorem dL_isRefused_745 : decode cL_isRefused 745 = .ok (.iload_n 3, 1) := by decide +kernel
theorem dL_isRefused_746 : decode cL_isRefused 746 = .ok (.bipush 6, 2) := by decide +kernel
theorem dL_isRefused_748 : decode cL_isRefused 748 = .ok (.irem, 1) := by decide +kernel
theorem dL_isRefused_749 : decode cL_isRefused 749 = .ok (.invokestatic 97, 3) := by decide +kernel
theorem dL_isRefused_752 : decode cL_isRefused 752 = .ok (.ldc 86, 2) := by decide +kernel
theorem dL_isRefused_754 : decode cL_isRefused 754 = .ok (.if_icmp .ne 7, 3) := by decide +kernel
theorem dL_isRefused_757 : decode cL_isRefused 757 = .ok (.iconst 1, 1) := by decide +kernel
theorem dL_isRefused_758 : decode cL_isRefused 758 = .ok (.goto 4, 3) := by decide +kernel
theorem dL_isRefused_761 : decode cL_isRefused 761 = .ok (.iconst 0, 1) := by decide +kernel
theorem dL_isRefused_762 : decode cL_isRefused 762 = .ok (.istore 13, 2) := by decide +kernel
theorem dL_isRefused_764 : decode cL_isRefused 764 = .ok (.iinc 14 1, 3) := by decide +kernel
theorem dL_isRefused_767 : decode cL_isRefused 767 = .ok (.goto (-118), 3) := by decide +kernel
theorem dL_isRefused_770 : decode cL_isRefused 770 = .ok (.iconst 0, 1) := by decide +kernel
theorem dL_isRefused_771 : decode cL_isRefused 771 = .ok (.istore 14, 2) := by decide +kernel
theorem dL_isRefused_773 : decode cL_isRefused 773 = .ok (.iload 14, 2) := by decide +kernel
theorem dL_isRefused_775 : decode cL_isRefused 775 = .ok (.aload_n 1, 1) := by decide +kernel
theorem dL_isRefused_776 : decode cL_isRefused 776 = .ok (.iconst 1, 1) := by decide +kernel
theorem dL_isRefused_777 : decode cL_isRefused 777 = .ok (.iaload, 1) := by decide +kernel
theorem dL_isRefused_778 : decode cL_isRefused 778 = .ok (.if_icmp .ge 223, 3) := by decide +kernel
theorem dL_isRefused_781 : decode cL_isRefused 781 = .ok (.iload 13, 2) := by decide +kernel
theorem dL_isRefused_783 : decode cL_isRefused 783 = .ok (.ifCond .eq 218, 3) := by decide +kernel
theorem dL_isRefused_786 : decode cL_isRefused 786 = .ok (.aload_n 0, 1) := by decide +kernel
theorem dL_isRefused_787 : decode cL_isRefused 787 = .ok (.iconst 4, 1) := by decide +kernel
theorem dL_isRefused_788 : decode cL_isRefused 788 = .ok (.iload 14, 2) := by decide +kernel
theorem dL_isRefused_790 : decode cL_isRefused 790 = .ok (.iload 8, 2) := by decide +kernel
theorem dL_isRefused_792 : decode cL_isRefused 792 = .ok (.iconst 0, 1) := by decide +kernel
theorem dL_isRefused_793 : decode cL_isRefused 793 = .ok (.invokestatic 97, 3) := by decide +kernel
theorem dL_isRefused_796 : decode cL_isRefused 796 = .ok (.ldc 80, 2) := by decide +kernel
theorem dL_isRefused_798 : decode cL_isRefused 798 = .ok (.if_icmp .ne 194, 3) := by decide +kernel
theorem dL_isRefused_801 : decode cL_isRefused 801 = .ok (.aload_n 0, 1) := by decide +kernel
theorem dL_isRefused_802 : decode cL_isRefused 802 = .ok (.bipush 6, 2) := by decide +kernel
theorem dL_isRefused_804 : decode cL_isRefused 804 = .ok (.iload 14, 2) := by decide +kernel
theorem dL_isRefused_806 : decode cL_isRefused 806 = .ok (.iload 7, 2) := by decide +kernel
theorem dL_isRefused_808 : decode cL_isRefused 808 = .ok (.iconst 0, 1) := by decide +kernel
theorem dL_isRefused_809 : decode cL_isRefused 809 = .ok (.invokestatic 97, 3) := by decide +kernel
theorem dL_isRefused_812 : decode cL_isRefused 812 = .ok (.ldc 80, 2) := by decide +kernel
theorem dL_isRefused_814 : decode cL_isRefused 814 = .ok (.if_icmp .ne 178, 3) := by decide +kernel
theorem dL_isRefused_817 : decode cL_isRefused 817 = .ok (.aload_n 0, 1) := by decide +kernel
theorem dL_isRefused_818 : decode cL_isRefused 818 = .ok (.bipush 9, 2) := by decide +kernel
theorem dL_isRefused_820 : decode cL_isRefused 820 = .ok (.iload 14, 2) := by decide +kernel
theorem dL_isRefused_822 : decode cL_isRefused 822 = .ok (.iload 9, 2) := by decide +kernel
theorem dL_isRefused_824 : decode cL_isRefused 824 = .ok (.bipush 9, 2) := by decide +kernel
theorem dL_isRefused_826 : decode cL_isRefused 826 = .ok (.invokestatic 97, 3) := by decide +kernel
theorem dL_isRefused_829 : decode cL_isRefused 829 = .ok (.ldc 80, 2) := by decide +kernel
theorem dL_isRefused_831 : decode cL_isRefused 831 = .ok (.if_icmp .ne 161, 3) := by decide +kernel
theorem dL_isRefused_834 : decode cL_isRefused 834 = .ok (.aload_n 0, 1) := by decide +kernel
theorem dL_isRefused_835 : decode cL_isRefused 835 = .ok (.bipush 9, 2) := by decide +kernel
theorem dL_isRefused_837 : decode cL_isRefused 837 = .ok (.iload 14, 2) := by decide +kernel
theorem dL_isRefused_839 : decode cL_isRefused 839 = .ok (.iload_n 3, 1) := by decide +kernel
theorem dL_isRefused_840 : decode cL_isRefused 840 = .ok (.bipush 6, 2) := by decide +kernel
theorem dL_isRefused_842 : decode cL_isRefused 842 = .ok (.irem, 1) := by decide +kernel
theorem dL_isRefused_843 : decode cL_isRefused 843 = .ok (.iload 4, 2) := by decide +kernel
theorem dL_isRefused_845 : decode cL_isRefused 845 = .ok (.ifCond .eq 7, 3) := by decide +kernel
theorem dL_isRefused_848 : decode cL_isRefused 848 = .ok (.iconst (-1), 1) := by decide +kernel
theorem dL_isRefused_849 : decode cL_isRefused 849 = .ok (.goto 9, 3) := by decide +kernel
theorem dL_isRefused_852 : decode cL_isRefused 852 = .ok (.iconst 4, 1) := by decide +kernel
theorem dL_isRefused_853 : decode cL_isRefused 853 = .ok (.iload_n 3, 1) := by decide +kernel
theorem dL_isRefused_854 : decode cL_isRefused 854 = .ok (.bipush 30, 2) := by decide +kernel
theorem dL_isRefused_856 : decode cL_isRefused 856 = .ok (.irem, 1) := by decide +kernel
theorem dL_isRefused_857 : decode cL_isRefused 857 = .ok (.iadd, 1) := by decide +kernel
theorem dL_isRefused_858 : decode cL_isRefused 858 = .ok (.invokestatic 97, 3) := by decide +kernel
theorem dL_isRefused_861 : decode cL_isRefused 861 = .ok (.ldc 83, 2) := by decide +kernel
theorem dL_isRefused_863 : decode cL_isRefused 863 = .ok (.if_icmp .ne 129, 3) := by decide +kernel
theorem dL_isRefused_866 : decode cL_isRefused 866 = .ok (.aload_n 0, 1) := by decide +kernel
theorem dL_isRefused_867 : decode cL_isRefused 867 = .ok (.bipush 10, 2) := by decide +kernel
theorem dL_isRefused_869 : decode cL_isRefused 869 = .ok (.iload 14, 2) := by decide +kernel
theorem dL_isRefused_871 : decode cL_isRefused 871 = .ok (.iload 9, 2) := by decide +kernel
theorem dL_isRefused_873 : decode cL_isRefused 873 = .ok (.iconst 0, 1) := by decide +kernel
theorem dL_isRefused_874 : decode cL_isRefused 874 = .ok (.invokestatic 97, 3) := by decide +kernel
theorem dL_isRefused_877 : decode cL_isRefused 877 = .ok (.ldc 80, 2) := by decide +kernel
theorem dL_isRefused_879 : decode cL_isRefused 879 = .ok (.if_icmp .ne 113, 3) := by decide +kernel
theorem dL_isRefused_882 : decode cL_isRefused 882 = .ok (.aload_n 0, 1) := by decide +kernel
theorem dL_isRefused_883 : decode cL_isRefused 883 = .ok (.bipush 11, 2) := by decide +kernel
theorem dL_isRefused_885 : decode cL_isRefused 885 = .ok (.iload 14, 2) := by decide +kernel
theorem dL_isRefused_887 : decode cL_isRefused 887 = .ok (.iload 4, 2) := by decide +kernel
theorem dL_isRefused_889 : decode cL_isRefused 889 = .ok (.ifCond .eq 13, 3) := by decide +kernel
theorem dL_isRefused_892 : decode cL_isRefused 892 = .ok (.bipush 9, 2) := by decide +kernel
theorem dL_isRefused_894 : decode cL_isRefused 894 = .ok (.iload_n 3, 1) := by decide +kernel
theorem dL_isRefused_895 : decode cL_isRefused 895 = .ok (.bipush 30, 2) := by decide +kernel
theorem dL_isRefused_897 : decode cL_isRefused 897 = .ok (.irem, 1) := by decide +kernel
theorem dL_isRefused_898 : decode cL_isRefused 898 = .ok (.isub, 1) := by decide +kernel
theorem dL_isRefused_899 : decode cL_isRefused 899 = .ok (.goto 6, 3) := by decide +kernel
theorem dL_isRefused_902 : decode cL_isRefused 902 = .ok (.sipush 151, 3) := by decide +kernel
theorem dL_isRefused_905 : decode cL_isRefused 905 = .ok (.iconst 0, 1) := by decide +kernel
theorem dL_isRefused_906 : decode cL_isRefused 906 = .ok (.invokestatic 97, 3) := by decide +kernel
theorem dL_isRefused_909 : decode cL_isRefused 909 = .ok (.ldc 83, 2) := by decide +kernel
theorem dL_isRefused_911 : decode cL_isRefused 911 = .ok (.if_icmp .ne 81, 3) := by decide +kernel
theorem dL_isRefused_914 : decode cL_isRefused 914 = .ok (.aload_n 2, 1) := by decide +kernel
theorem dL_isRefused_915 : decode cL_isRefused 915 = .ok (.iconst 4, 1) := by decide +kernel
theorem dL_isRefused_916 : decode cL_isRefused 916 = .ok (.iload 14, 2) := by decide +kernel
theorem dL_isRefused_918 : decode cL_isRefused 918 = .ok (.imul, 1) := by decide +kernel
theorem dL_isRefused_919 : decode cL_isRefused 919 = .ok (.iconst 3, 1) := by decide +kernel
theorem dL_isRefused_920 : decode cL_isRefused 920 = .ok (.iadd, 1) := by decide +kernel
theorem dL_isRefused_921 : decode cL_isRefused 921 = .ok (.iaload, 1) := by decide +kernel
theorem dL_isRefused_922 : decode cL_isRefused 922 = .ok (.ifCond .eq 18, 3) := by decide +kernel
theorem dL_isRefused_925 : decode cL_isRefused 925 = .ok (.aload_n 0, 1) := by decide +kernel
theorem dL_isRefused_926 : decode cL_isRefused 926 = .ok (.bipush 7, 2) := by decide +kernel
theorem dL_isRefused_928 : decode cL_isRefused 928 = .ok (.iload 14, 2) := by decide +kernel
theorem dL_isRefused_930 : decode cL_isRefused 930 = .ok (.iconst 0, 1) := by decide +kernel
theorem dL_isRefused_931 : decode cL_isRefused 931 = .ok (.iconst 0, 1) := by decide +kernel
theorem dL_isRefused_932 : decode cL_isRefused 932 = .ok (.invokestatic 97, 3) := by decide +kernel
theorem dL_isRefused_935 : decode cL_isRefused 935 = .ok (.ldc 86, 2) := by decide +kernel
theorem dL_isRefused_937 : decode cL_isRefused 937 = .ok (.if_icmp .ne 55, 3) := by decide +kernel
theorem dL_isRefused_940 : decode cL_isRefused 940 = .ok (.aload_n 1, 1) := by decide +kernel
theorem dL_isRefused_941 : decode cL_isRefused 941 = .ok (.iconst 3, 1) := by decide +kernel
theorem dL_isRefused_942 : decode cL_isRefused 942 = .ok (.iaload, 1) := by decide +kernel
theorem dL_isRefused_943 : decode cL_isRefused 943 = .ok (.ifCond .eq 45, 3) := by decide +kernel
theorem dL_isRefused_946 : decode cL_isRefused 946 = .ok (.aload_n 2, 1) := by decide +kernel
theorem dL_isRefused_947 : decode cL_isRefused 947 = .ok (.iconst 4, 1) := by decide +kernel
theorem dL_isRefused_948 : decode cL_isRefused 948 = .ok (.iload 14, 2) := by decide +kernel
theorem dL_isRefused_950 : decode cL_isRefused 950 = .ok (.imul, 1) := by decide +kernel
theorem dL_isRefused_951 : decode cL_isRefused 951 = .ok (.iconst 2, 1) := by decide +kernel
theorem dL_isRefused_952 : decode cL_isRefused 952 = .ok (.iadd, 1) := by decide +kernel
theorem dL_isRefused_953 : decode cL_isRefused 953 = .ok (.iaload, 1) := by decide +kernel
theorem dL_isRefused_954 : decode cL_isRefused 954 = .ok (.ifCond .ne 16, 3) := by decide +kernel
theorem dL_isRefused_957 : decode cL_isRefused 957 = .ok (.aload_n 2, 1) := by decide +kernel
theorem dL_isRefused_958 : decode cL_isRefused 958 = .ok (.iconst 4, 1) := by decide +kernel
theorem dL_isRefused_959 : decode cL_isRefused 959 = .ok (.iload 14, 2) := by decide +kernel
theorem dL_isRefused_961 : decode cL_isRefused 961 = .ok (.imul, 1) := by decide +kernel
theorem dL_isRefused_962 : decode cL_isRefused 962 = .ok (.iconst 1, 1) := by decide +kernel
theorem dL_isRefused_963 : decode cL_isRefused 963 = .ok (.iadd, 1) := by decide +kernel
theorem dL_isRefused_964 : decode cL_isRefused 964 = .ok (.iaload, 1) := by decide +kernel
theorem dL_isRefused_965 : decode cL_isRefused 965 = .ok (.bipush 12, 2) := by decide +kernel
theorem dL_isRefused_967 : decode cL_isRefused 967 = .ok (.if_icmp .lt 21, 3) := by decide +kernel
theorem dL_isRefused_970 : decode cL_isRefused 970 = .ok (.aload_n 0, 1) := by decide +kernel
theorem dL_isRefused_971 : decode cL_isRefused 971 = .ok (.iconst 4, 1) := by decide +kernel
theorem dL_isRefused_972 : decode cL_isRefused 972 = .ok (.iload 14, 2) := by decide +kernel
theorem dL_isRefused_974 : decode cL_isRefused 974 = .ok (.iload_n 3, 1) := by decide +kernel
theorem dL_isRefused_975 : decode cL_isRefused 975 = .ok (.aload_n 1, 1) := by decide +kernel
theorem dL_isRefused_976 : decode cL_isRefused 976 = .ok (.iconst 3, 1) := by decide +kernel
theorem dL_isRefused_977 : decode cL_isRefused 977 = .ok (.iaload, 1) := by decide +kernel
theorem dL_isRefused_978 : decode cL_isRefused 978 = .ok (.irem, 1) := by decide +kernel
theorem dL_isRefused_979 : decode cL_isRefused 979 = .ok (.iconst 0, 1) := by decide +kernel
theorem dL_isRefused_980 : decode cL_isRefused 980 = .ok (.invokestatic 97, 3) := by decide +kernel
theorem dL_isRefused_983 : decode cL_isRefused 983 = .ok (.ldc 86, 2) := by decide +kernel
theorem dL_isRefused_985 : decode cL_isRefused 985 = .ok (.if_icmp .ne 7, 3) := by decide +kernel
theorem dL_isRefused_988 : decode cL_isRefused 988 = .ok (.iconst 1, 1) := by decide +kernel
theorem dL_isRefused_989 : decode cL_isRefused 989 = .ok (.goto 4, 3) := by decide +kernel
theorem dL_isRefused_992 : decode cL_isRefused 992 = .ok (.iconst 0, 1) := by decide +kernel
theorem dL_isRefused_993 : decode cL_isRefused 993 = .ok (.istore 13, 2) := by decide +kernel
theorem dL_isRefused_995 : decode cL_isRefused 995 = .ok (.iinc 14 1, 3) := by decide +kernel
theorem dL_isRefused_998 : decode cL_isRefused 998 = .ok (.goto (-225), 3) := by decide +kernel
theorem dL_isRefused_1001 : decode cL_isRefused 1001 = .ok (.iload 13, 2) := by decide +kernel
theorem dL_isRefused_1003 : decode cL_isRefused 1003 = .ok (.ifCond .eq 105, 3) := by decide +kernel
theorem dL_isRefused_1006 : decode cL_isRefused 1006 = .ok (.aload_n 1, 1) := by decide +kernel
theorem dL_isRefused_1007 : decode cL_isRefused 1007 = .ok (.iconst 0, 1) := by decide +kernel
theorem dL_isRefused_1008 : decode cL_isRefused 1008 = .ok (.iaload, 1) := by decide +kernel
theorem dL_isRefused_1009 : decode cL_isRefused 1009 = .ok (.bipush 10, 2) := by decide +kernel
theorem dL_isRefused_1011 : decode cL_isRefused 1011 = .ok (.if_icmp .lt 16, 3) := by decide +kernel
theorem dL_isRefused_1014 : decode cL_isRefused 1014 = .ok (.aload_n 0, 1) := by decide +kernel
theorem dL_isRefused_1015 : decode cL_isRefused 1015 = .ok (.iconst 1, 1) := by decide +kernel
theorem dL_isRefused_1016 : decode cL_isRefused 1016 = .ok (.iconst 5, 1) := by decide +kernel
theorem dL_isRefused_1017 : decode cL_isRefused 1017 = .ok (.iconst 0, 1) := by decide +kernel
theorem dL_isRefused_1018 : decode cL_isRefused 1018 = .ok (.iconst 0, 1) := by decide +kernel
theorem dL_isRefused_1019 : decode cL_isRefused 1019 = .ok (.invokestatic 97, 3) := by decide +kernel
theorem dL_isRefused_1022 : decode cL_isRefused 1022 = .ok (.ldc 86, 2) := by decide +kernel
theorem dL_isRefused_1024 : decode cL_isRefused 1024 = .ok (.if_icmp .ne 84, 3) := by decide +kernel
theorem dL_isRefused_1027 : decode cL_isRefused 1027 = .ok (.aload_n 1, 1) := by decide +kernel
theorem dL_isRefused_1028 : decode cL_isRefused 1028 = .ok (.iconst 2, 1) := by decide +kernel
theorem dL_isRefused_1029 : decode cL_isRefused 1029 = .ok (.iaload, 1) := by decide +kernel
theorem dL_isRefused_1030 : decode cL_isRefused 1030 = .ok (.bipush 8, 2) := by decide +kernel
theorem dL_isRefused_1032 : decode cL_isRefused 1032 = .ok (.if_icmp .lt 18, 3) := by decide +kernel
theorem dL_isRefused_1035 : decode cL_isRefused 1035 = .ok (.aload_n 0, 1) := by decide +kernel
theorem dL_isRefused_1036 : decode cL_isRefused 1036 = .ok (.iconst 5, 1) := by decide +kernel
theorem dL_isRefused_1037 : decode cL_isRefused 1037 = .ok (.sipush 500, 3) := by decide +kernel
theorem dL_isRefused_1040 : decode cL_isRefused 1040 = .ok (.iconst 3, 1) := by decide +kernel
theorem dL_isRefused_1041 : decode cL_isRefused 1041 = .ok (.iconst 0, 1) := by decide +kernel
theorem dL_isRefused_1042 : decode cL_isRefused 1042 = .ok (.invokestatic 97, 3) := by decide +kernel
theorem dL_isRefused_1045 : decode cL_isRefused 1045 = .ok (.ldc 86, 2) := by decide +kernel
theorem dL_isRefused_1047 : decode cL_isRefused 1047 = .ok (.if_icmp .ne 61, 3) := by decide +kernel
theorem dL_isRefused_1050 : decode cL_isRefused 1050 = .ok (.aload_n 1, 1) := by decide +kernel
theorem dL_isRefused_1051 : decode cL_isRefused 1051 = .ok (.iconst 3, 1) := by decide +kernel
theorem dL_isRefused_1052 : decode cL_isRefused 1052 = .ok (.iaload, 1) := by decide +kernel
theorem dL_isRefused_1053 : decode cL_isRefused 1053 = .ok (.bipush 6, 2) := by decide +kernel
theorem dL_isRefused_1055 : decode cL_isRefused 1055 = .ok (.if_icmp .lt 16, 3) := by decide +kernel
theorem dL_isRefused_1058 : decode cL_isRefused 1058 = .ok (.aload_n 0, 1) := by decide +kernel
theorem dL_isRefused_1059 : decode cL_isRefused 1059 = .ok (.iconst 3, 1) := by decide +kernel
theorem dL_isRefused_1060 : decode cL_isRefused 1060 = .ok (.iconst 0, 1) := by decide +kernel
theorem dL_isRefused_1061 : decode cL_isRefused 1061 = .ok (.iconst 0, 1) := by decide +kernel
theorem dL_isRefused_1062 : decode cL_isRefused 1062 = .ok (.iconst 0, 1) := by decide +kernel
theorem dL_isRefused_1063 : decode cL_isRefused 1063 = .ok (.invokestatic 97, 3) := by decide +kernel
theorem dL_isRefused_1066 : decode cL_isRefused 1066 = .ok (.ldc 86, 2) := by decide +kernel
theorem dL_isRefused_1068 : decode cL_isRefused 1068 = .ok (.if_icmp .ne 40, 3) := by decide +kernel
theorem dL_isRefused_1071 : decode cL_isRefused 1071 = .ok (.aload_n 1, 1) := by decide +kernel
theorem dL_isRefused_1072 : decode cL_isRefused 1072 = .ok (.iconst 1, 1) := by decide +kernel
theorem dL_isRefused_1073 : decode cL_isRefused 1073 = .ok (.iaload, 1) := by decide +kernel
theorem dL_isRefused_1074 : decode cL_isRefused 1074 = .ok (.bipush 12, 2) := by decide +kernel
theorem dL_isRefused_1076 : decode cL_isRefused 1076 = .ok (.if_icmp .lt 17, 3) := by decide +kernel
theorem dL_isRefused_1079 : decode cL_isRefused 1079 = .ok (.aload_n 0, 1) := by decide +kernel
theorem dL_isRefused_1080 : decode cL_isRefused 1080 = .ok (.iconst 2, 1) := by decide +kernel
theorem dL_isRefused_1081 : decode cL_isRefused 1081 = .ok (.iconst 0, 1) := by decide +kernel
theorem dL_isRefused_1082 : decode cL_isRefused 1082 = .ok (.bipush 10, 2) := by decide +kernel
theorem dL_isRefused_1084 : decode cL_isRefused 1084 = .ok (.iconst 0, 1) := by decide +kernel
theorem dL_isRefused_1085 : decode cL_isRefused 1085 = .ok (.invokestatic 97, 3) := by decide +kernel
theorem dL_isRefused_1088 : decode cL_isRefused 1088 = .ok (.ldc 86, 2) := by decide +kernel
theorem dL_isRefused_1090 : decode cL_isRefused 1090 = .ok (.if_icmp .ne 18, 3) := by decide +kernel
theorem dL_isRefused_1093 : decode cL_isRefused 1093 = .ok (.aload_n 0, 1) := by decide +kernel
theorem dL_isRefused_1094 : decode cL_isRefused 1094 = .ok (.aload_n 1, 1) := by decide +kernel
theorem dL_isRefused_1095 : decode cL_isRefused 1095 = .ok (.invokestatic 91, 3) := by decide +kernel
theorem dL_isRefused_1098 : decode cL_isRefused 1098 = .ok (.lload 11, 2) := by decide +kernel
theorem dL_isRefused_1100 : decode cL_isRefused 1100 = .ok (.lcmp, 1) := by decide +kernel
theorem dL_isRefused_1101 : decode cL_isRefused 1101 = .ok (.ifCond .ne 7, 3) := by decide +kernel
theorem dL_isRefused_1104 : decode cL_isRefused 1104 = .ok (.iconst 1, 1) := by decide +kernel
theorem dL_isRefused_1105 : decode cL_isRefused 1105 = .ok (.goto 4, 3) := by decide +kernel
theorem dL_isRefused_1108 : decode cL_isRefused 1108 = .ok (.iconst 0, 1) := by decide +kernel
theorem dL_isRefused_1109 : decode cL_isRefused 1109 = .ok (.ireturn, 1) := by decide +kernel
theorem dL_areSound_0 : decode cL_areSound 0 = .ok (.iconst 1, 1) := by decide +kernel
theorem dL_areSound_1 : decode cL_areSound 1 = .ok (.istore 6, 2) := by decide +kernel
theorem dL_areSound_3 : decode cL_areSound 3 = .ok (.aload 4, 2) := by decide +kernel
theorem dL_areSound_5 : decode cL_areSound 5 = .ok (.bipush 8, 2) := by decide +kernel
theorem dL_areSound_7 : decode cL_areSound 7 = .ok (.iaload, 1) := by decide +kernel
theorem dL_areSound_8 : decode cL_areSound 8 = .ok (.sipush 785, 3) := by decide +kernel
theorem dL_areSound_11 : decode cL_areSound 11 = .ok (.imul, 1) := by decide +kernel
theorem dL_areSound_12 : decode cL_areSound 12 = .ok (.sipush 1000, 3) := by decide +kernel
theorem dL_areSound_15 : decode cL_areSound 15 = .ok (.idiv, 1) := by decide +kernel
theorem dL_areSound_16 : decode cL_areSound 16 = .ok (.istore 7, 2) := by decide +kernel
theorem dL_areSound_18 : decode cL_areSound 18 = .ok (.iconst 0, 1) := by decide +kernel
theorem dL_areSound_19 : decode cL_areSound 19 = .ok (.istore 8, 2) := by decide +kernel
theorem dL_areSound_21 : decode cL_areSound 21 = .ok (.iload 8, 2) := by decide +kernel
theorem dL_areSound_23 : decode cL_areSound 23 = .ok (.aload_n 1, 1) := by decide +kernel
theorem dL_areSound_24 : decode cL_areSound 24 = .ok (.iconst 1, 1) := by decide +kernel
theorem dL_areSound_25 : decode cL_areSound 25 = .ok (.iaload, 1) := by decide +kernel
theorem dL_areSound_26 : decode cL_areSound 26 = .ok (.if_icmp .ge 329, 3) := by decide +kernel
theorem dL_areSound_29 : decode cL_areSound 29 = .ok (.iload 6, 2) := by decide +kernel
theorem dL_areSound_31 : decode cL_areSound 31 = .ok (.ifCond .eq 324, 3) := by decide +kernel
theorem dL_areSound_34 : decode cL_areSound 34 = .ok (.iconst 0, 1) := by decide +kernel
theorem dL_areSound_35 : decode cL_areSound 35 = .ok (.istore 9, 2) := by decide +kernel
theorem dL_areSound_37 : decode cL_areSound 37 = .ok (.sipush 9999, 3) := by decide +kernel
theorem dL_areSound_40 : decode cL_areSound 40 = .ok (.istore 10, 2) := by decide +kernel
theorem dL_areSound_42 : decode cL_areSound 42 = .ok (.aload_n 0, 1) := by decide +kernel
theorem dL_areSound_43 : decode cL_areSound 43 = .ok (.iload 8, 2) := by decide +kernel
theorem dL_areSound_45 : decode cL_areSound 45 = .ok (.iconst 0, 1) := by decide +kernel
theorem dL_areSound_46 : decode cL_areSound 46 = .ok (.iconst 0, 1) := by decide +kernel
theorem dL_areSound_47 : decode cL_areSound 47 = .ok (.invokevirtual 44, 3) := by decide +kernel
theorem dL_areSound_50 : decode cL_areSound 50 = .ok (.iload 7, 2) := by decide +kernel
theorem dL_areSound_52 : decode cL_areSound 52 = .ok (.isub, 1) := by decide +kernel
theorem dL_areSound_53 : decode cL_areSound 53 = .ok (.istore 11, 2) := by decide +kernel
theorem dL_areSound_55 : decode cL_areSound 55 = .ok (.iconst 0, 1) := by decide +kernel
theorem dL_areSound_56 : decode cL_areSound 56 = .ok (.istore 12, 2) := by decide +kernel
theorem dL_areSound_58 : decode cL_areSound 58 = .ok (.iload 12, 2) := by decide +kernel
theorem dL_areSound_60 : decode cL_areSound 60 = .ok (.bipush 6, 2) := by decide +kernel
theorem dL_areSound_62 : decode cL_areSound 62 = .ok (.if_icmp .ge 214, 3) := by decide +kernel
theorem dL_areSound_65 : decode cL_areSound 65 = .ok (.iload 6, 2) := by decide +kernel
theorem dL_areSound_67 : decode cL_areSound 67 = .ok (.ifCond .eq 209, 3) := by decide +kernel
theorem dL_areSound_70 : decode cL_areSound 70 = .ok (.aload_n 0, 1) := by decide +kernel
theorem dL_areSound_71 : decode cL_areSound 71 = .ok (.iload 8, 2) := by decide +kernel
theorem dL_areSound_73 : decode cL_areSound 73 = .ok (.iload 12, 2) := by decide +kernel
theorem dL_areSound_75 : decode cL_areSound 75 = .ok (.iconst 0, 1) := by decide +kernel
theorem dL_areSound_76 : decode cL_areSound 76 = .ok (.invokevirtual 44, 3) := by decide +kernel
theorem dL_areSound_79 : decode cL_areSound 79 = .ok (.istore 13, 2) := by decide +kernel
theorem dL_areSound_81 : decode cL_areSound 81 = .ok (.aload_n 0, 1) := by decide +kernel
theorem dL_areSound_82 : decode cL_areSound 82 = .ok (.iload 8, 2) := by decide +kernel
theorem dL_areSound_84 : decode cL_areSound 84 = .ok (.iload 12, 2) := by decide +kernel
theorem dL_areSound_86 : decode cL_areSound 86 = .ok (.iconst 1, 1) := by decide +kernel
theorem dL_areSound_87 : decode cL_areSound 87 = .ok (.invokevirtual 44, 3) := by decide +kernel
theorem dL_areSound_90 : decode cL_areSound 90 = .ok (.istore 14, 2) := by decide +kernel
theorem dL_areSound_92 : decode cL_areSound 92 = .ok (.aload_n 0, 1) := by decide +kernel
theorem dL_areSound_93 : decode cL_areSound 93 = .ok (.iload 8, 2) := by decide +kernel
theorem dL_areSound_95 : decode cL_areSound 95 = .ok (.iload 12, 2) := by decide +kernel
theorem dL_areSound_97 : decode cL_areSound 97 = .ok (.iconst 2, 1) := by decide +kernel
theorem dL_areSound_98 : decode cL_areSound 98 = .ok (.invokevirtual 44, 3) := by decide +kernel
theorem dL_areSound_101 : decode cL_areSound 101 = .ok (.istore 15, 2) := by decide +kernel
theorem dL_areSound_103 : decode cL_areSound 103 = .ok (.iload 9, 2) := by decide +kernel
theorem dL_areSound_105 : decode cL_areSound 105 = .ok (.iload 15, 2) := by decide +kernel
theorem dL_areSound_107 : decode cL_areSound 107 = .ok (.iadd, 1) := by decide +kernel
theorem dL_areSound_108 : decode cL_areSound 108 = .ok (.istore 9, 2) := by decide +kernel
theorem dL_areSound_110 : decode cL_areSound 110 = .ok (.iload 13, 2) := by decide +kernel
theorem dL_areSound_112 : decode cL_areSound 112 = .ok (.bipush 49, 2) := by decide +kernel
theorem dL_areSound_114 : decode cL_areSound 114 = .ok (.if_icmp .le 149, 3) := by decide +kernel
theorem dL_areSound_117 : decode cL_areSound 117 = .ok (.iload 13, 2) := by decide +kernel
theorem dL_areSound_119 : decode cL_areSound 119 = .ok (.sipush 1200, 3) := by decide +kernel
theorem dL_areSound_122 : decode cL_areSound 122 = .ok (.aload_n 2, 1) := by decide +kernel
theorem dL_areSound_123 : decode cL_areSound 123 = .ok (.iconst 4, 1) := by decide +kernel
theorem dL_areSound_124 : decode cL_areSound 124 = .ok (.iload 8, 2) := by decide +kernel
theorem dL_areSound_126 : decode cL_areSound 126 = .ok (.imul, 1) := by decide +kernel
theorem dL_areSound_127 : decode cL_areSound 127 = .ok (.iconst 2, 1) := by decide +kernel
theorem dL_areSound_128 : decode cL_areSound 128 = .ok (.iadd, 1) := by decide +kernel
theorem dL_areSound_129 : decode cL_areSound 129 = .ok (.iaload, 1) := by decide +kernel
theorem dL_areSound_130 : decode cL_areSound 130 = .ok (.ifCond .le 7, 3) := by decide +kernel
theorem dL_areSound_133 : decode cL_areSound 133 = .ok (.iconst 0, 1) := by decide +kernel
theorem dL_areSound_134 : decode cL_areSound 134 = .ok (.goto 9, 3) := by decide +kernel
theorem dL_areSound_137 : decode cL_areSound 137 = .ok (.sipush 150, 3) := by decide +kernel
theorem dL_areSound_140 : decode cL_areSound 140 = .ok (.iload 12, 2) := by decide +kernel
theorem dL_areSound_142 : decode cL_areSound 142 = .ok (.imul, 1) := by decide +kernel
theorem dL_areSound_143 : decode cL_areSound 143 = .ok (.isub, 1) := by decide +kernel
theorem dL_areSound_144 : decode cL_areSound 144 = .ok (.if_icmp .gt 119, 3) := by decide +kernel
theorem dL_areSound_147 : decode cL_areSound 147 = .ok (.aload_n 2, 1) := by decide +kernel
theorem dL_areSound_148 : decode cL_areSound 148 = .ok (.iconst 4, 1) := by decide +kernel
theorem dL_areSound_149 : decode cL_areSound 149 = .ok (.iload 8, 2) := by decide +kernel
theorem dL_areSound_151 : decode cL_areSound 151 = .ok (.imul, 1) := by decide +kernel
theorem dL_areSound_152 : decode cL_areSound 152 = .ok (.iconst 2, 1) := by decide +kernel
theorem dL_areSound_153 : decode cL_areSound 153 = .ok (.iadd, 1) := by decide +kernel
theorem dL_areSound_154 : decode cL_areSound 154 = .ok (.iaload, 1) := by decide +kernel
theorem dL_areSound_155 : decode cL_areSound 155 = .ok (.ifCond .le 13, 3) := by decide +kernel
theorem dL_areSound_158 : decode cL_areSound 158 = .ok (.iload 13, 2) := by decide +kernel
theorem dL_areSound_160 : decode cL_areSound 160 = .ok (.iload 10, 2) := by decide +kernel
theorem dL_areSound_162 : decode cL_areSound 162 = .ok (.if_icmp .gt 101, 3) := by decide +kernel
theorem dL_areSound_165 : decode cL_areSound 165 = .ok (.goto 10, 3) := by decide +kernel
theorem dL_areSound_168 : decode cL_areSound 168 = .ok (.iload 13, 2) := by decide +kernel
theorem dL_areSound_170 : decode cL_areSound 170 = .ok (.iload 10, 2) := by decide +kernel
theorem dL_areSound_172 : decode cL_areSound 172 = .ok (.if_icmp .ge 91, 3) := by decide +kernel
theorem dL_areSound_175 : decode cL_areSound 175 = .ok (.iload 14, 2) := by decide +kernel
theorem dL_areSound_177 : decode cL_areSound 177 = .ok (.ifCond .le 86, 3) := by decide +kernel
theorem dL_areSound_180 : decode cL_areSound 180 = .ok (.iload 14, 2) := by decide +kernel
theorem dL_areSound_182 : decode cL_areSound 182 = .ok (.bipush 60, 2) := by decide +kernel
theorem dL_areSound_184 : decode cL_areSound 184 = .ok (.if_icmp .gt 79, 3) := by decide +kernel
theorem dL_areSound_187 : decode cL_areSound 187 = .ok (.iload 15, 2) := by decide +kernel
theorem dL_areSound_189 : decode cL_areSound 189 = .ok (.ifCond .le 74, 3) := by decide +kernel
theorem dL_areSound_192 : decode cL_areSound 192 = .ok (.aload_n 0, 1) := by decide +kernel
theorem dL_areSound_193 : decode cL_areSound 193 = .ok (.iload 8, 2) := by decide +kernel
theorem dL_areSound_195 : decode cL_areSound 195 = .ok (.iload 12, 2) := by decide +kernel
theorem dL_areSound_197 : decode cL_areSound 197 = .ok (.iconst 3, 1) := by decide +kernel
theorem dL_areSound_198 : decode cL_areSound 198 = .ok (.invokevirtual 44, 3) := by decide +kernel
theorem dL_areSound_201 : decode cL_areSound 201 = .ok (.iload 15, 2) := by decide +kernel
theorem dL_areSound_203 : decode cL_areSound 203 = .ok (.ldc 101, 2) := by decide +kernel
theorem dL_areSound_205 : decode cL_areSound 205 = .ok (.imul, 1) := by decide +kernel
theorem dL_areSound_206 : decode cL_areSound 206 = .ok (.iload 13, 2) := by decide +kernel
theorem dL_areSound_208 : decode cL_areSound 208 = .ok (.iload 14, 2) := by decide +kernel
theorem dL_areSound_210 : decode cL_areSound 210 = .ok (.imul, 1) := by decide +kernel
theorem dL_areSound_211 : decode cL_areSound 211 = .ok (.idiv, 1) := by decide +kernel
theorem dL_areSound_212 : decode cL_areSound 212 = .ok (.if_icmp .ne 51, 3) := by decide +kernel
theorem dL_areSound_215 : decode cL_areSound 215 = .ok (.iload 8, 2) := by decide +kernel
theorem dL_areSound_217 : decode cL_areSound 217 = .ok (.iload 12, 2) := by decide +kernel
theorem dL_areSound_219 : decode cL_areSound 219 = .ok (.iadd, 1) := by decide +kernel
theorem dL_areSound_220 : decode cL_areSound 220 = .ok (.iload 5, 2) := by decide +kernel
theorem dL_areSound_222 : decode cL_areSound 222 = .ok (.iadd, 1) := by decide +kernel
theorem dL_areSound_223 : decode cL_areSound 223 = .ok (.iconst 5, 1) := by decide +kernel
theorem dL_areSound_224 : decode cL_areSound 224 = .ok (.irem, 1) := by decide +kernel
theorem dL_areSound_225 : decode cL_areSound 225 = .ok (.ifCond .gt 16, 3) := by decide +kernel
theorem dL_areSound_228 : decode cL_areSound 228 = .ok (.aload_n 0, 1) := by decide +kernel
theorem dL_areSound_229 : decode cL_areSound 229 = .ok (.iload 8, 2) := by decide +kernel
theorem dL_areSound_231 : decode cL_areSound 231 = .ok (.iload 12, 2) := by decide +kernel
theorem dL_areSound_233 : decode cL_areSound 233 = .ok (.invokevirtual 47, 3) := by decide +kernel
theorem dL_areSound_236 : decode cL_areSound 236 = .ok (.iload 13, 2) := by decide +kernel
theorem dL_areSound_238 : decode cL_areSound 238 = .ok (.if_icmp .ne 25, 3) := by decide +kernel
theorem dL_areSound_241 : decode cL_areSound 241 = .ok (.iload 12, 2) := by decide +kernel
theorem dL_areSound_243 : decode cL_areSound 243 = .ok (.ifCond .eq 16, 3) := by decide +kernel
theorem dL_areSound_246 : decode cL_areSound 246 = .ok (.iload 14, 2) := by decide +kernel
theorem dL_areSound_248 : decode cL_areSound 248 = .ok (.aload_n 0, 1) := by decide +kernel
theorem dL_areSound_249 : decode cL_areSound 249 = .ok (.iload 8, 2) := by decide +kernel
theorem dL_areSound_251 : decode cL_areSound 251 = .ok (.iconst 0, 1) := by decide +kernel
theorem dL_areSound_252 : decode cL_areSound 252 = .ok (.iconst 1, 1) := by decide +kernel
theorem dL_areSound_253 : decode cL_areSound 253 = .ok (.invokevirtual 44, 3) := by decide +kernel
theorem dL_areSound_256 : decode cL_areSound 256 = .ok (.if_icmp .ne 7, 3) := by decide +kernel
theorem dL_areSound_259 : decode cL_areSound 259 = .ok (.iconst 1, 1) := by decide +kernel
theorem dL_areSound_260 : decode cL_areSound 260 = .ok (.goto 4, 3) := by decide +kernel
theorem dL_areSound_263 : decode cL_areSound 263 = .ok (.iconst 0, 1) := by decide +kernel
theorem dL_areSound_264 : decode cL_areSound 264 = .ok (.istore 6, 2) := by decide +kernel
theorem dL_areSound_266 : decode cL_areSound 266 = .ok (.iload 13, 2) := by decide +kernel
theorem dL_areSound_268 : decode cL_areSound 268 = .ok (.istore 10, 2) := by decide +kernel
theorem dL_areSound_270 : decode cL_areSound 270 = .ok (.iinc 12 1, 3) := by decide +kernel
theorem dL_areSound_273 : decode cL_areSound 273 = .ok (.goto (-215), 3) := by decide +kernel
theorem dL_areSound_276 : decode cL_areSound 276 = .ok (.iload 6, 2) := by decide +kernel
theorem dL_areSound_278 : decode cL_areSound 278 = .ok (.ifCond .eq 68, 3) := by decide +kernel
theorem dL_areSound_281 : decode cL_areSound 281 = .ok (.iload 9, 2) := by decide +kernel
theorem dL_areSound_283 : decode cL_areSound 283 = .ok (.aload_n 2, 1) := by decide +kernel
theorem dL_areSound_284 : decode cL_areSound 284 = .ok (.iconst 4, 1) := by decide +kernel
theorem dL_areSound_285 : decode cL_areSound 285 = .ok (.iload 8, 2) := by decide +kernel
theorem dL_areSound_287 : decode cL_areSound 287 = .ok (.imul, 1) := by decide +kernel
theorem dL_areSound_288 : decode cL_areSound 288 = .ok (.iaload, 1) := by decide +kernel
theorem dL_areSound_289 : decode cL_areSound 289 = .ok (.if_icmp .ne 57, 3) := by decide +kernel
theorem dL_areSound_292 : decode cL_areSound 292 = .ok (.aload_n 0, 1) := by decide +kernel
theorem dL_areSound_293 : decode cL_areSound 293 = .ok (.iload 8, 2) := by decide +kernel
theorem dL_areSound_295 : decode cL_areSound 295 = .ok (.invokevirtual 65, 3) := by decide +kernel
theorem dL_areSound_298 : decode cL_areSound 298 = .ok (.iload 11, 2) := by decide +kernel
theorem dL_areSound_300 : decode cL_areSound 300 = .ok (.ifCond .lt 14, 3) := by decide +kernel
theorem dL_areSound_303 : decode cL_areSound 303 = .ok (.iload 11, 2) := by decide +kernel
theorem dL_areSound_305 : decode cL_areSound 305 = .ok (.bipush 13, 2) := by decide +kernel
theorem dL_areSound_307 : decode cL_areSound 307 = .ok (.if_icmp .ge 7, 3) := by decide +kernel
theorem dL_areSound_310 : decode cL_areSound 310 = .ok (.iconst 1, 1) := by decide +kernel
theorem dL_areSound_311 : decode cL_areSound 311 = .ok (.goto 4, 3) := by decide +kernel
theorem dL_areSound_314 : decode cL_areSound 314 = .ok (.iconst 0, 1) := by decide +kernel
theorem dL_areSound_315 : decode cL_areSound 315 = .ok (.if_icmp .ne 31, 3) := by decide +kernel
theorem dL_areSound_318 : decode cL_areSound 318 = .ok (.aload_n 2, 1) := by decide +kernel
theorem dL_areSound_319 : decode cL_areSound 319 = .ok (.iconst 4, 1) := by decide +kernel
theorem dL_areSound_320 : decode cL_areSound 320 = .ok (.iload 8, 2) := by decide +kernel
theorem dL_areSound_322 : decode cL_areSound 322 = .ok (.imul, 1) := by decide +kernel
theorem dL_areSound_323 : decode cL_areSound 323 = .ok (.iconst 1, 1) := by decide +kernel
theorem dL_areSound_324 : decode cL_areSound 324 = .ok (.iadd, 1) := by decide +kernel
theorem dL_areSound_325 : decode cL_areSound 325 = .ok (.iaload, 1) := by decide +kernel
theorem dL_areSound_326 : decode cL_areSound 326 = .ok (.ifCond .gt 16, 3) := by decide +kernel
theorem dL_areSound_329 : decode cL_areSound 329 = .ok (.aload_n 0, 1) := by decide +kernel
theorem dL_areSound_330 : decode cL_areSound 330 = .ok (.iload 8, 2) := by decide +kernel
theorem dL_areSound_332 : decode cL_areSound 332 = .ok (.iconst 5, 1) := by decide +kernel
theorem dL_areSound_333 : decode cL_areSound 333 = .ok (.iconst 1, 1) := by decide +kernel
theorem dL_areSound_334 : decode cL_areSound 334 = .ok (.invokevirtual 44, 3) := by decide +kernel
theorem dL_areSound_337 : decode cL_areSound 337 = .ok (.bipush 60, 2) := by decide +kernel
theorem dL_areSound_339 : decode cL_areSound 339 = .ok (.if_icmp .ne 7, 3) := by decide +kernel
theorem dL_areSound_342 : decode cL_areSound 342 = .ok (.iconst 1, 1) := by decide +kernel
theorem dL_areSound_343 : decode cL_areSound 343 = .ok (.goto 4, 3) := by decide +kernel
theorem dL_areSound_346 : decode cL_areSound 346 = .ok (.iconst 0, 1) := by decide +kernel
theorem dL_areSound_347 : decode cL_areSound 347 = .ok (.istore 6, 2) := by decide +kernel
theorem dL_areSound_349 : decode cL_areSound 349 = .ok (.iinc 8 1, 3) := by decide +kernel
theorem dL_areSound_352 : decode cL_areSound 352 = .ok (.goto (-331), 3) := by decide +kernel
theorem dL_areSound_355 : decode cL_areSound 355 = .ok (.iconst 0, 1) := by decide +kernel
theorem dL_areSound_356 : decode cL_areSound 356 = .ok (.istore 8, 2) := by decide +kernel
theorem dL_areSound_358 : decode cL_areSound 358 = .ok (.iload 8, 2) := by decide +kernel
theorem dL_areSound_360 : decode cL_areSound 360 = .ok (.aload_n 1, 1) := by decide +kernel
theorem dL_areSound_361 : decode cL_areSound 361 = .ok (.iconst 3, 1) := by decide +kernel
theorem dL_areSound_362 : decode cL_areSound 362 = .ok (.iaload, 1) := by decide +kernel
theorem dL_areSound_363 : decode cL_areSound 363 = .ok (.if_icmp .ge 65, 3) := by decide +kernel
theorem dL_areSound_366 : decode cL_areSound 366 = .ok (.iload 6, 2) := by decide +kernel
theorem dL_areSound_368 : decode cL_areSound 368 = .ok (.ifCond .eq 60, 3) := by decide +kernel
theorem dL_areSound_371 : decode cL_areSound 371 = .ok (.aload_n 0, 1) := by decide +kernel
theorem dL_areSound_372 : decode cL_areSound 372 = .ok (.iload 8, 2) := by decide +kernel
theorem dL_areSound_374 : decode cL_areSound 374 = .ok (.iconst 1, 1) := by decide +kernel
theorem dL_areSound_375 : decode cL_areSound 375 = .ok (.invokevirtual 71, 3) := by decide +kernel
theorem dL_areSound_378 : decode cL_areSound 378 = .ok (.aload_n 3, 1) := by decide +kernel
theorem dL_areSound_379 : decode cL_areSound 379 = .ok (.iload 8, 2) := by decide +kernel
theorem dL_areSound_381 : decode cL_areSound 381 = .ok (.iaload, 1) := by decide +kernel
theorem dL_areSound_382 : decode cL_areSound 382 = .ok (.if_icmp .ne 37, 3) := by decide +kernel
theorem dL_areSound_385 : decode cL_areSound 385 = .ok (.aload_n 3, 1) := by decide +kernel
theorem dL_areSound_386 : decode cL_areSound 386 = .ok (.iload 8, 2) := by decide +kernel
theorem dL_areSound_388 : decode cL_areSound 388 = .ok (.iaload, 1) := by decide +kernel
theorem dL_areSound_389 : decode cL_areSound 389 = .ok (.ifCond .lt 30, 3) := by decide +kernel
theorem dL_areSound_392 : decode cL_areSound 392 = .ok (.aload_n 3, 1) := by decide +kernel
theorem dL_areSound_393 : decode cL_areSound 393 = .ok (.iload 8, 2) := by decide +kernel
theorem dL_areSound_395 : decode cL_areSound 395 = .ok (.iaload, 1) := by decide +kernel
theorem dL_areSound_396 : decode cL_areSound 396 = .ok (.bipush 30, 2) := by decide +kernel
theorem dL_areSound_398 : decode cL_areSound 398 = .ok (.if_icmp .gt 21, 3) := by decide +kernel
theorem dL_areSound_401 : decode cL_areSound 401 = .ok (.aload_n 0, 1) := by decide +kernel
theorem dL_areSound_402 : decode cL_areSound 402 = .ok (.iload 8, 2) := by decide +kernel
theorem dL_areSound_404 : decode cL_areSound 404 = .ok (.iconst 0, 1) := by decide +kernel
theorem dL_areSound_405 : decode cL_areSound 405 = .ok (.invokevirtual 71, 3) := by decide +kernel
theorem dL_areSound_408 : decode cL_areSound 408 = .ok (.aload_n 3, 1) := by decide +kernel
theorem dL_areSound_409 : decode cL_areSound 409 = .ok (.iload 8, 2) := by decide +kernel
theorem dL_areSound_411 : decode cL_areSound 411 = .ok (.iaload, 1) := by decide +kernel
theorem dL_areSound_412 : decode cL_areSound 412 = .ok (.if_icmp .lt 7, 3) := by decide +kernel
theorem dL_areSound_415 : decode cL_areSound 415 = .ok (.iconst 1, 1) := by decide +kernel
theorem dL_areSound_416 : decode cL_areSound 416 = .ok (.goto 4, 3) := by decide +kernel
theorem dL_areSound_419 : decode cL_areSound 419 = .ok (.iconst 0, 1) := by decide +kernel
theorem dL_areSound_420 : decode cL_areSound 420 = .ok (.istore 6, 2) := by decide +kernel
theorem dL_areSound_422 : decode cL_areSound 422 = .ok (.iinc 8 1, 3) := by decide +kernel
theorem dL_areSound_425 : decode cL_areSound 425 = .ok (.goto (-67), 3) := by decide +kernel
theorem dL_areSound_428 : decode cL_areSound 428 = .ok (.iload 6, 2) := by decide +kernel
theorem dL_areSound_430 : decode cL_areSound 430 = .ok (.ifCond .eq 72, 3) := by decide +kernel
theorem dL_areSound_433 : decode cL_areSound 433 = .ok (.iload 7, 2) := by decide +kernel
theorem dL_areSound_435 : decode cL_areSound 435 = .ok (.ifCond .le 7, 3) := by decide +kernel
theorem dL_areSound_438 : decode cL_areSound 438 = .ok (.iconst 1, 1) := by decide +kernel
theorem dL_areSound_439 : decode cL_areSound 439 = .ok (.goto 4, 3) := by decide +kernel
theorem dL_areSound_442 : decode cL_areSound 442 = .ok (.iconst 0, 1) := by decide +kernel
theorem dL_areSound_443 : decode cL_areSound 443 = .ok (.aload_n 0, 1) := by decide +kernel
theorem dL_areSound_444 : decode cL_areSound 444 = .ok (.iconst 0, 1) := by decide +kernel
theorem dL_areSound_445 : decode cL_areSound 445 = .ok (.invokevirtual 68, 3) := by decide +kernel
theorem dL_areSound_448 : decode cL_areSound 448 = .ok (.ifCond .le 7, 3) := by decide +kernel
theorem dL_areSound_451 : decode cL_areSound 451 = .ok (.iconst 1, 1) := by decide +kernel
theorem dL_areSound_452 : decode cL_areSound 452 = .ok (.goto 4, 3) := by decide +kernel
theorem dL_areSound_455 : decode cL_areSound 455 = .ok (.iconst 0, 1) := by decide +kernel
theorem dL_areSound_456 : decode cL_areSound 456 = .ok (.if_icmp .ne 46, 3) := by decide +kernel
theorem dL_areSound_459 : decode cL_areSound 459 = .ok (.aload_n 0, 1) := by decide +kernel
theorem dL_areSound_460 : decode cL_areSound 460 = .ok (.iconst 2, 1) := by decide +kernel
theorem dL_areSound_461 : decode cL_areSound 461 = .ok (.invokevirtual 68, 3) := by decide +kernel
theorem dL_areSound_464 : decode cL_areSound 464 = .ok (.aload_n 0, 1) := by decide +kernel
theorem dL_areSound_465 : decode cL_areSound 465 = .ok (.iconst 1, 1) := by decide +kernel
theorem dL_areSound_466 : decode cL_areSound 466 = .ok (.invokevirtual 68, 3) := by decide +kernel
theorem dL_areSound_469 : decode cL_areSound 469 = .ok (.if_icmp .le 33, 3) := by decide +kernel
theorem dL_areSound_472 : decode cL_areSound 472 = .ok (.aload_n 0, 1) := by decide +kernel
theorem dL_areSound_473 : decode cL_areSound 473 = .ok (.iconst 3, 1) := by decide +kernel
theorem dL_areSound_474 : decode cL_areSound 474 = .ok (.invokevirtual 68, 3) := by decide +kernel
theorem dL_areSound_477 : decode cL_areSound 477 = .ok (.aload_n 0, 1) := by decide +kernel
theorem dL_areSound_478 : decode cL_areSound 478 = .ok (.iconst 0, 1) := by decide +kernel
theorem dL_areSound_479 : decode cL_areSound 479 = .ok (.invokevirtual 68, 3) := by decide +kernel
theorem dL_areSound_482 : decode cL_areSound 482 = .ok (.if_icmp .lt 20, 3) := by decide +kernel
theorem dL_areSound_485 : decode cL_areSound 485 = .ok (.aload_n 0, 1) := by decide +kernel
theorem dL_areSound_486 : decode cL_areSound 486 = .ok (.iconst 1, 1) := by decide +kernel
theorem dL_areSound_487 : decode cL_areSound 487 = .ok (.invokevirtual 68, 3) := by decide +kernel
theorem dL_areSound_490 : decode cL_areSound 490 = .ok (.aload_n 0, 1) := by decide +kernel
theorem dL_areSound_491 : decode cL_areSound 491 = .ok (.iconst 0, 1) := by decide +kernel
theorem dL_areSound_492 : decode cL_areSound 492 = .ok (.invokevirtual 68, 3) := by decide +kernel
theorem dL_areSound_495 : decode cL_areSound 495 = .ok (.if_icmp .gt 7, 3) := by decide +kernel
theorem dL_areSound_498 : decode cL_areSound 498 = .ok (.iconst 1, 1) := by decide +kernel
theorem dL_areSound_499 : decode cL_areSound 499 = .ok (.goto 4, 3) := by decide +kernel
theorem dL_areSound_502 : decode cL_areSound 502 = .ok (.iconst 0, 1) := by decide +kernel
theorem dL_areSound_503 : decode cL_areSound 503 = .ok (.ireturn, 1) := by decide +kernel
theorem dL_types_0 : decode cL_types 0 = .ok (.aload_n 0, 1) := by decide +kernel
theorem dL_types_1 : decode cL_types 1 = .ok (.iconst 1, 1) := by decide +kernel
theorem dL_types_2 : decode cL_types 2 = .ok (.invokevirtual 53, 3) := by decide +kernel
theorem dL_types_5 : decode cL_types 5 = .ok (.iconst (-1), 1) := by decide +kernel
theorem dL_types_6 : decode cL_types 6 = .ok (.if_icmp .lt 7, 3) := by decide +kernel
theorem dL_types_9 : decode cL_types 9 = .ok (.iconst 1, 1) := by decide +kernel
theorem dL_types_10 : decode cL_types 10 = .ok (.goto 4, 3) := by decide +kernel
theorem dL_types_13 : decode cL_types 13 = .ok (.iconst 0, 1) := by decide +kernel
theorem dL_types_14 : decode cL_types 14 = .ok (.istore 4, 2) := by decide +kernel
theorem dL_types_16 : decode cL_types 16 = .ok (.aload_n 1, 1) := by decide +kernel
theorem dL_types_17 : decode cL_types 17 = .ok (.iconst 5, 1) := by decide +kernel
theorem dL_types_18 : decode cL_types 18 = .ok (.iconst 0, 1) := by decide +kernel
theorem dL_types_19 : decode cL_types 19 = .ok (.iastore, 1) := by decide +kernel
theorem dL_types_20 : decode cL_types 20 = .ok (.bipush 7, 2) := by decide +kernel
theorem dL_types_22 : decode cL_types 22 = .ok (.istore 5, 2) := by decide +kernel
theorem dL_types_24 : decode cL_types 24 = .ok (.iload 5, 2) := by decide +kernel
theorem dL_types_26 : decode cL_types 26 = .ok (.ifCond .lt 71, 3) := by decide +kernel
theorem dL_types_29 : decode cL_types 29 = .ok (.iload 4, 2) := by decide +kernel
theorem dL_types_31 : decode cL_types 31 = .ok (.ifCond .eq 66, 3) := by decide +kernel
theorem dL_types_34 : decode cL_types 34 = .ok (.lload_n 2, 1) := by decide +kernel
theorem dL_types_35 : decode cL_types 35 = .ok (.bipush 8, 2) := by decide +kernel
theorem dL_types_37 : decode cL_types 37 = .ok (.iload 5, 2) := by decide +kernel
theorem dL_types_39 : decode cL_types 39 = .ok (.imul, 1) := by decide +kernel
theorem dL_types_40 : decode cL_types 40 = .ok (.lshr, 1) := by decide +kernel
theorem dL_types_41 : decode cL_types 41 = .ok (.ldc2_w 102, 3) := by decide +kernel
theorem dL_types_44 : decode cL_types 44 = .ok (.land, 1) := by decide +kernel
theorem dL_types_45 : decode cL_types 45 = .ok (.l2i, 1) := by decide +kernel
theorem dL_types_46 : decode cL_types 46 = .ok (.istore 6, 2) := by decide +kernel
theorem dL_types_48 : decode cL_types 48 = .ok (.aload_n 1, 1) := by decide +kernel
theorem dL_types_49 : decode cL_types 49 = .ok (.iconst 5, 1) := by decide +kernel
theorem dL_types_50 : decode cL_types 50 = .ok (.dup2, 1) := by decide +kernel
theorem dL_types_51 : decode cL_types 51 = .ok (.iaload, 1) := by decide +kernel
theorem dL_types_52 : decode cL_types 52 = .ok (.iload 6, 2) := by decide +kernel
theorem dL_types_54 : decode cL_types 54 = .ok (.ifCond .le 7, 3) := by decide +kernel
theorem dL_types_57 : decode cL_types 57 = .ok (.iconst 1, 1) := by decide +kernel
theorem dL_types_58 : decode cL_types 58 = .ok (.goto 4, 3) := by decide +kernel
theorem dL_types_61 : decode cL_types 61 = .ok (.iconst 0, 1) := by decide +kernel
theorem dL_types_62 : decode cL_types 62 = .ok (.iadd, 1) := by decide +kernel
theorem dL_types_63 : decode cL_types 63 = .ok (.iastore, 1) := by decide +kernel
theorem dL_types_64 : decode cL_types 64 = .ok (.iload 6, 2) := by decide +kernel
theorem dL_types_66 : decode cL_types 66 = .ok (.ifCond .eq 18, 3) := by decide +kernel
theorem dL_types_69 : decode cL_types 69 = .ok (.aload_n 0, 1) := by decide +kernel
theorem dL_types_70 : decode cL_types 70 = .ok (.iconst 0, 1) := by decide +kernel
theorem dL_types_71 : decode cL_types 71 = .ok (.iload 6, 2) := by decide +kernel
theorem dL_types_73 : decode cL_types 73 = .ok (.iconst 0, 1) := by decide +kernel
theorem dL_types_74 : decode cL_types 74 = .ok (.iconst 0, 1) := by decide +kernel
theorem dL_types_75 : decode cL_types 75 = .ok (.invokestatic 97, 3) := by decide +kernel
theorem dL_types_78 : decode cL_types 78 = .ok (.aload_n 1, 1) := by decide +kernel
theorem dL_types_79 : decode cL_types 79 = .ok (.iconst 5, 1) := by decide +kernel
theorem dL_types_80 : decode cL_types 80 = .ok (.iaload, 1) := by decide +kernel
theorem dL_types_81 : decode cL_types 81 = .ok (.if_icmp .ne 7, 3) := by decide +kernel
theorem dL_types_84 : decode cL_types 84 = .ok (.iconst 1, 1) := by decide +kernel
theorem dL_types_85 : decode cL_types 85 = .ok (.goto 4, 3) := by decide +kernel
theorem dL_types_88 : decode cL_types 88 = .ok (.iconst 0, 1) := by decide +kernel
theorem dL_types_89 : decode cL_types 89 = .ok (.istore 4, 2) := by decide +kernel
theorem dL_types_91 : decode cL_types 91 = .ok (.iinc 5 (-1), 3) := by decide +kernel
theorem dL_types_94 : decode cL_types 94 = .ok (.goto (-70), 3) := by decide +kernel
theorem dL_types_97 : decode cL_types 97 = .ok (.iload 4, 2) := by decide +kernel
theorem dL_types_99 : decode cL_types 99 = .ok (.ireturn, 1) := by decide +kernel
theorem dL_isCounted_0 : decode cL_isCounted 0 = .ok (.iload_n 2, 1) := by decide +kernel
theorem dL_isCounted_1 : decode cL_isCounted 1 = .ok (.iconst 4, 1) := by decide +kernel
theorem dL_isCounted_2 : decode cL_isCounted 2 = .ok (.irem, 1) := by decide +kernel
theorem dL_isCounted_3 : decode cL_isCounted 3 = .ok (.ifCond .ne 9, 3) := by decide +kernel
theorem dL_isCounted_6 : decode cL_isCounted 6 = .ok (.ldc2_w 104, 3) := by decide +kernel
theorem dL_isCounted_9 : decode cL_isCounted 9 = .ok (.goto 32, 3) := by decide +kernel
theorem dL_isCounted_12 : decode cL_isCounted 12 = .ok (.iload_n 2, 1) := by decide +kernel
theorem dL_isCounted_13 : decode cL_isCounted 13 = .ok (.iconst 4, 1) := by decide +kernel
theorem dL_isCounted_14 : decode cL_isCounted 14 = .ok (.irem, 1) := by decide +kernel
theorem dL_isCounted_15 : decode cL_isCounted 15 = .ok (.iconst 1, 1) := by decide +kernel
theorem dL_isCounted_16 : decode cL_isCounted 16 = .ok (.if_icmp .ne 9, 3) := by decide +kernel
theorem dL_isCounted_19 : decode cL_isCounted 19 = .ok (.ldc2_w 106, 3) := by decide +kernel
theorem dL_isCounted_22 : decode cL_isCounted 22 = .ok (.goto 19, 3) := by decide +kernel
theorem dL_isCounted_25 : decode cL_isCounted 25 = .ok (.iload_n 2, 1) := by decide +kernel
theorem dL_isCounted_26 : decode cL_isCounted 26 = .ok (.iconst 4, 1) := by decide +kernel
theorem dL_isCounted_27 : decode cL_isCounted 27 = .ok (.irem, 1) := by decide +kernel
theorem dL_isCounted_28 : decode cL_isCounted 28 = .ok (.iconst 2, 1) := by decide +kernel
theorem dL_isCounted_29 : decode cL_isCounted 29 = .ok (.if_icmp .ne 9, 3) := by decide +kernel
theorem dL_isCounted_32 : decode cL_isCounted 32 = .ok (.ldc2_w 108, 3) := by decide +kernel
theorem dL_isCounted_35 : decode cL_isCounted 35 = .ok (.goto 6, 3) := by decide +kernel
theorem dL_isCounted_38 : decode cL_isCounted 38 = .ok (.ldc2_w 110, 3) := by decide +kernel
theorem dL_isCounted_41 : decode cL_isCounted 41 = .ok (.lstore_n 3, 1) := by decide +kernel
theorem dL_isCounted_42 : decode cL_isCounted 42 = .ok (.iconst 1, 1) := by decide +kernel
theorem dL_isCounted_43 : decode cL_isCounted 43 = .ok (.iload_n 2, 1) := by decide +kernel
theorem dL_isCounted_44 : decode cL_isCounted 44 = .ok (.iconst 4, 1) := by decide +kernel
theorem dL_isCounted_45 : decode cL_isCounted 45 = .ok (.idiv, 1) := by decide +kernel
theorem dL_isCounted_46 : decode cL_isCounted 46 = .ok (.bipush 99, 2) := by decide +kernel
theorem dL_isCounted_48 : decode cL_isCounted 48 = .ok (.irem, 1) := by decide +kernel
theorem dL_isCounted_49 : decode cL_isCounted 49 = .ok (.iadd, 1) := by decide +kernel
theorem dL_isCounted_50 : decode cL_isCounted 50 = .ok (.istore 5, 2) := by decide +kernel
theorem dL_isCounted_52 : decode cL_isCounted 52 = .ok (.iconst 1, 1) := by decide +kernel
theorem dL_isCounted_53 : decode cL_isCounted 53 = .ok (.iload_n 2, 1) := by decide +kernel
theorem dL_isCounted_54 : decode cL_isCounted 54 = .ok (.sipush 400, 3) := by decide +kernel
theorem dL_isCounted_57 : decode cL_isCounted 57 = .ok (.idiv, 1) := by decide +kernel
theorem dL_isCounted_58 : decode cL_isCounted 58 = .ok (.sipush 2000, 3) := by decide +kernel
theorem dL_isCounted_61 : decode cL_isCounted 61 = .ok (.irem, 1) := by decide +kernel
theorem dL_isCounted_62 : decode cL_isCounted 62 = .ok (.iadd, 1) := by decide +kernel
theorem dL_isCounted_63 : decode cL_isCounted 63 = .ok (.istore 6, 2) := by decide +kernel
theorem dL_isCounted_65 : decode cL_isCounted 65 = .ok (.aload_n 0, 1) := by decide +kernel
theorem dL_isCounted_66 : decode cL_isCounted 66 = .ok (.aload_n 1, 1) := by decide +kernel
theorem dL_isCounted_67 : decode cL_isCounted 67 = .ok (.lload_n 3, 1) := by decide +kernel
theorem dL_isCounted_68 : decode cL_isCounted 68 = .ok (.invokestatic 112, 3) := by decide +kernel
theorem dL_isCounted_71 : decode cL_isCounted 71 = .ok (.istore 7, 2) := by decide +kernel
theorem dL_isCounted_73 : decode cL_isCounted 73 = .ok (.aload_n 0, 1) := by decide +kernel
theorem dL_isCounted_74 : decode cL_isCounted 74 = .ok (.bipush 12, 2) := by decide +kernel
theorem dL_isCounted_76 : decode cL_isCounted 76 = .ok (.iload 5, 2) := by decide +kernel
theorem dL_isCounted_78 : decode cL_isCounted 78 = .ok (.iconst 0, 1) := by decide +kernel
theorem dL_isCounted_79 : decode cL_isCounted 79 = .ok (.iconst 0, 1) := by decide +kernel
theorem dL_isCounted_80 : decode cL_isCounted 80 = .ok (.invokestatic 97, 3) := by decide +kernel
theorem dL_isCounted_83 : decode cL_isCounted 83 = .ok (.istore 8, 2) := by decide +kernel
theorem dL_isCounted_85 : decode cL_isCounted 85 = .ok (.iload 7, 2) := by decide +kernel
theorem dL_isCounted_87 : decode cL_isCounted 87 = .ok (.ifCond .eq 40, 3) := by decide +kernel
theorem dL_isCounted_90 : decode cL_isCounted 90 = .ok (.aload_n 0, 1) := by decide +kernel
theorem dL_isCounted_91 : decode cL_isCounted 91 = .ok (.aload_n 1, 1) := by decide +kernel
theorem dL_isCounted_92 : decode cL_isCounted 92 = .ok (.lload_n 3, 1) := by decide +kernel
theorem dL_isCounted_93 : decode cL_isCounted 93 = .ok (.invokestatic 112, 3) := by decide +kernel
theorem dL_isCounted_96 : decode cL_isCounted 96 = .ok (.ifCond .eq 31, 3) := by decide +kernel
theorem dL_isCounted_99 : decode cL_isCounted 99 = .ok (.aload_n 0, 1) := by decide +kernel
theorem dL_isCounted_100 : decode cL_isCounted 100 = .ok (.bipush 13, 2) := by decide +kernel
theorem dL_isCounted_102 : decode cL_isCounted 102 = .ok (.iload 5, 2) := by decide +kernel
theorem dL_isCounted_104 : decode cL_isCounted 104 = .ok (.iconst 0, 1) := by decide +kernel
theorem dL_isCounted_105 : decode cL_isCounted 105 = .ok (.iconst 0, 1) := by decide +kernel
theorem dL_isCounted_106 : decode cL_isCounted 106 = .ok (.invokestatic 97, 3) := by decide +kernel
theorem dL_isCounted_109 : decode cL_isCounted 109 = .ok (.iload 8, 2) := by decide +kernel
theorem dL_isCounted_111 : decode cL_isCounted 111 = .ok (.if_icmp .ne 16, 3) := by decide +kernel
theorem dL_isCounted_114 : decode cL_isCounted 114 = .ok (.aload_n 0, 1) := by decide +kernel
theorem dL_isCounted_115 : decode cL_isCounted 115 = .ok (.aload_n 1, 1) := by decide +kernel
theorem dL_isCounted_116 : decode cL_isCounted 116 = .ok (.lload_n 3, 1) := by decide +kernel
theorem dL_isCounted_117 : decode cL_isCounted 117 = .ok (.invokestatic 112, 3) := by decide +kernel
theorem dL_isCounted_120 : decode cL_isCounted 120 = .ok (.ifCond .eq 7, 3) := by decide +kernel
theorem dL_isCounted_123 : decode cL_isCounted 123 = .ok (.iconst 1, 1) := by decide +kernel
theorem dL_isCounted_124 : decode cL_isCounted 124 = .ok (.goto 4, 3) := by decide +kernel
theorem dL_isCounted_127 : decode cL_isCounted 127 = .ok (.iconst 0, 1) := by decide +kernel
theorem dL_isCounted_128 : decode cL_isCounted 128 = .ok (.istore 7, 2) := by decide +kernel
theorem dL_isCounted_130 : decode cL_isCounted 130 = .ok (.aload_n 0, 1) := by decide +kernel
theorem dL_isCounted_131 : decode cL_isCounted 131 = .ok (.bipush 12, 2) := by decide +kernel
theorem dL_isCounted_133 : decode cL_isCounted 133 = .ok (.iload 5, 2) := by decide +kernel
theorem dL_isCounted_135 : decode cL_isCounted 135 = .ok (.iconst 1, 1) := by decide +kernel
theorem dL_isCounted_136 : decode cL_isCounted 136 = .ok (.iadd, 1) := by decide +kernel
theorem dL_isCounted_137 : decode cL_isCounted 137 = .ok (.iconst 0, 1) := by decide +kernel
theorem dL_isCounted_138 : decode cL_isCounted 138 = .ok (.iconst 0, 1) := by decide +kernel
theorem dL_isCounted_139 : decode cL_isCounted 139 = .ok (.invokestatic 97, 3) := by decide +kernel
theorem dL_isCounted_142 : decode cL_isCounted 142 = .ok (.istore 9, 2) := by decide +kernel
theorem dL_isCounted_144 : decode cL_isCounted 144 = .ok (.iload 7, 2) := by decide +kernel
theorem dL_isCounted_146 : decode cL_isCounted 146 = .ok (.ifCond .eq 36, 3) := by decide +kernel
theorem dL_isCounted_149 : decode cL_isCounted 149 = .ok (.iload 8, 2) := by decide +kernel
theorem dL_isCounted_151 : decode cL_isCounted 151 = .ok (.bipush 6, 2) := by decide +kernel
theorem dL_isCounted_153 : decode cL_isCounted 153 = .ok (.iload 5, 2) := by decide +kernel
theorem dL_isCounted_155 : decode cL_isCounted 155 = .ok (.imul, 1) := by decide +kernel
theorem dL_isCounted_156 : decode cL_isCounted 156 = .ok (.if_icmp .lt 26, 3) := by decide +kernel
theorem dL_isCounted_159 : decode cL_isCounted 159 = .ok (.iload 9, 2) := by decide +kernel
theorem dL_isCounted_161 : decode cL_isCounted 161 = .ok (.iload 8, 2) := by decide +kernel
theorem dL_isCounted_163 : decode cL_isCounted 163 = .ok (.isub, 1) := by decide +kernel
theorem dL_isCounted_164 : decode cL_isCounted 164 = .ok (.bipush 6, 2) := by decide +kernel
theorem dL_isCounted_166 : decode cL_isCounted 166 = .ok (.if_icmp .lt 16, 3) := by decide +kernel
theorem dL_isCounted_169 : decode cL_isCounted 169 = .ok (.aload_n 0, 1) := by decide +kernel
theorem dL_isCounted_170 : decode cL_isCounted 170 = .ok (.aload_n 1, 1) := by decide +kernel
theorem dL_isCounted_171 : decode cL_isCounted 171 = .ok (.lload_n 3, 1) := by decide +kernel
theorem dL_isCounted_172 : decode cL_isCounted 172 = .ok (.invokestatic 112, 3) := by decide +kernel
theorem dL_isCounted_175 : decode cL_isCounted 175 = .ok (.ifCond .eq 7, 3) := by decide +kernel
theorem dL_isCounted_178 : decode cL_isCounted 178 = .ok (.iconst 1, 1) := by decide +kernel
theorem dL_isCounted_179 : decode cL_isCounted 179 = .ok (.goto 4, 3) := by decide +kernel
theorem dL_isCounted_182 : decode cL_isCounted 182 = .ok (.iconst 0, 1) := by decide +kernel
theorem dL_isCounted_183 : decode cL_isCounted 183 = .ok (.istore 7, 2) := by decide +kernel
theorem dL_isCounted_185 : decode cL_isCounted 185 = .ok (.aload_n 0, 1) := by decide +kernel
theorem dL_isCounted_186 : decode cL_isCounted 186 = .ok (.bipush 14, 2) := by decide +kernel
theorem dL_isCounted_188 : decode cL_isCounted 188 = .ok (.iload 6, 2) := by decide +kernel
theorem dL_isCounted_190 : decode cL_isCounted 190 = .ok (.iconst 0, 1) := by decide +kernel
theorem dL_isCounted_191 : decode cL_isCounted 191 = .ok (.iconst 0, 1) := by decide +kernel
theorem dL_isCounted_192 : decode cL_isCounted 192 = .ok (.invokestatic 97, 3) := by decide +kernel
theorem dL_isCounted_195 : decode cL_isCounted 195 = .ok (.istore 10, 2) := by decide +kernel
theorem dL_isCounted_197 : decode cL_isCounted 197 = .ok (.aload_n 1, 1) := by decide +kernel
theorem dL_isCounted_198 : decode cL_isCounted 198 = .ok (.iconst 5, 1) := by decide +kernel
theorem dL_isCounted_199 : decode cL_isCounted 199 = .ok (.iconst 0, 1) := by decide +kernel
theorem dL_isCounted_200 : decode cL_isCounted 200 = .ok (.iastore, 1) := by decide +kernel
theorem dL_isCounted_201 : decode cL_isCounted 201 = .ok (.iload 10, 2) := by decide +kernel
theorem dL_isCounted_203 : decode cL_isCounted 203 = .ok (.ifCond .ge 34, 3) := by decide +kernel
theorem dL_isCounted_206 : decode cL_isCounted 206 = .ok (.iload 7, 2) := by decide +kernel
theorem dL_isCounted_208 : decode cL_isCounted 208 = .ok (.ifCond .eq 27, 3) := by decide +kernel
theorem dL_isCounted_211 : decode cL_isCounted 211 = .ok (.iload 10, 2) := by decide +kernel
theorem dL_isCounted_213 : decode cL_isCounted 213 = .ok (.iconst (-1), 1) := by decide +kernel
theorem dL_isCounted_214 : decode cL_isCounted 214 = .ok (.if_icmp .ne 21, 3) := by decide +kernel
theorem dL_isCounted_217 : decode cL_isCounted 217 = .ok (.iload_n 2, 1) := by decide +kernel
theorem dL_isCounted_218 : decode cL_isCounted 218 = .ok (.iconst 4, 1) := by decide +kernel
theorem dL_isCounted_219 : decode cL_isCounted 219 = .ok (.irem, 1) := by decide +kernel
theorem dL_isCounted_220 : decode cL_isCounted 220 = .ok (.iconst 2, 1) := by decide +kernel
theorem dL_isCounted_221 : decode cL_isCounted 221 = .ok (.if_icmp .ne 14, 3) := by decide +kernel
theorem dL_isCounted_224 : decode cL_isCounted 224 = .ok (.iload 6, 2) := by decide +kernel
theorem dL_isCounted_226 : decode cL_isCounted 226 = .ok (.bipush 57, 2) := by decide +kernel
theorem dL_isCounted_228 : decode cL_isCounted 228 = .ok (.if_icmp .le 7, 3) := by decide +kernel
theorem dL_isCounted_231 : decode cL_isCounted 231 = .ok (.iconst 1, 1) := by decide +kernel
theorem dL_isCounted_232 : decode cL_isCounted 232 = .ok (.goto 4, 3) := by decide +kernel
theorem dL_isCounted_235 : decode cL_isCounted 235 = .ok (.iconst 0, 1) := by decide +kernel
theorem dL_isCounted_236 : decode cL_isCounted 236 = .ok (.ireturn, 1) := by decide +kernel
theorem dL_isCounted_237 : decode cL_isCounted 237 = .ok (.iload 10, 2) := by decide +kernel
theorem dL_isCounted_239 : decode cL_isCounted 239 = .ok (.bipush 99, 2) := by decide +kernel
theorem dL_isCounted_241 : decode cL_isCounted 241 = .ok (.if_icmp .gt 9, 3) := by decide +kernel
theorem dL_isCounted_244 : decode cL_isCounted 244 = .ok (.iload 10, 2) := by decide +kernel
theorem dL_isCounted_246 : decode cL_isCounted 246 = .ok (.iconst 2, 1) := by decide +kernel
theorem dL_isCounted_247 : decode cL_isCounted 247 = .ok (.if_icmp .ge 39, 3) := by decide +kernel
theorem dL_isCounted_250 : decode cL_isCounted 250 = .ok (.iload 7, 2) := by decide +kernel
theorem dL_isCounted_252 : decode cL_isCounted 252 = .ok (.ifCond .eq 32, 3) := by decide +kernel
theorem dL_isCounted_255 : decode cL_isCounted 255 = .ok (.iload 10, 2) := by decide +kernel
theorem dL_isCounted_257 : decode cL_isCounted 257 = .ok (.bipush 99, 2) := by decide +kernel
theorem dL_isCounted_259 : decode cL_isCounted 259 = .ok (.if_icmp .le 14, 3) := by decide +kernel
theorem dL_isCounted_262 : decode cL_isCounted 262 = .ok (.iload 6, 2) := by decide +kernel
theorem dL_isCounted_264 : decode cL_isCounted 264 = .ok (.sipush 300, 3) := by decide +kernel
theorem dL_isCounted_267 : decode cL_isCounted 267 = .ok (.if_icmp .le 17, 3) := by decide +kernel
theorem dL_isCounted_270 : decode cL_isCounted 270 = .ok (.goto 10, 3) := by decide +kernel
theorem dL_isCounted_273 : decode cL_isCounted 273 = .ok (.iload 6, 2) := by decide +kernel
theorem dL_isCounted_275 : decode cL_isCounted 275 = .ok (.bipush 7, 2) := by decide +kernel
theorem dL_isCounted_277 : decode cL_isCounted 277 = .ok (.if_icmp .ge 7, 3) := by decide +kernel
theorem dL_isCounted_280 : decode cL_isCounted 280 = .ok (.iconst 1, 1) := by decide +kernel
theorem dL_isCounted_281 : decode cL_isCounted 281 = .ok (.goto 4, 3) := by decide +kernel
theorem dL_isCounted_284 : decode cL_isCounted 284 = .ok (.iconst 0, 1) := by decide +kernel
theorem dL_isCounted_285 : decode cL_isCounted 285 = .ok (.ireturn, 1) := by decide +kernel
theorem dL_isCounted_286 : decode cL_isCounted 286 = .ok (.iload 7, 2) := by decide +kernel
theorem dL_isCounted_288 : decode cL_isCounted 288 = .ok (.ifCond .eq 16, 3) := by decide +kernel
theorem dL_isCounted_291 : decode cL_isCounted 291 = .ok (.aload_n 0, 1) := by decide +kernel
theorem dL_isCounted_292 : decode cL_isCounted 292 = .ok (.aload_n 1, 1) := by decide +kernel
theorem dL_isCounted_293 : decode cL_isCounted 293 = .ok (.lload_n 3, 1) := by decide +kernel
theorem dL_isCounted_294 : decode cL_isCounted 294 = .ok (.invokestatic 112, 3) := by decide +kernel
theorem dL_isCounted_297 : decode cL_isCounted 297 = .ok (.ifCond .eq 7, 3) := by decide +kernel
theorem dL_isCounted_300 : decode cL_isCounted 300 = .ok (.iconst 1, 1) := by decide +kernel
theorem dL_isCounted_301 : decode cL_isCounted 301 = .ok (.goto 4, 3) := by decide +kernel
theorem dL_isCounted_304 : decode cL_isCounted 304 = .ok (.iconst 0, 1) := by decide +kernel
theorem dL_isCounted_305 : decode cL_isCounted 305 = .ok (.istore 7, 2) := by decide +kernel
theorem dL_isCounted_307 : decode cL_isCounted 307 = .ok (.aload_n 0, 1) := by decide +kernel
theorem dL_isCounted_308 : decode cL_isCounted 308 = .ok (.bipush 12, 2) := by decide +kernel
theorem dL_isCounted_310 : decode cL_isCounted 310 = .ok (.iload 10, 2) := by decide +kernel
theorem dL_isCounted_312 : decode cL_isCounted 312 = .ok (.iconst 0, 1) := by decide +kernel
theorem dL_isCounted_313 : decode cL_isCounted 313 = .ok (.iconst 0, 1) := by decide +kernel
theorem dL_isCounted_314 : decode cL_isCounted 314 = .ok (.invokestatic 97, 3) := by decide +kernel
theorem dL_isCounted_317 : decode cL_isCounted 317 = .ok (.istore 11, 2) := by decide +kernel
theorem dL_isCounted_319 : decode cL_isCounted 319 = .ok (.iload 7, 2) := by decide +kernel
theorem dL_isCounted_321 : decode cL_isCounted 321 = .ok (.ifCond .eq 16, 3) := by decide +kernel
theorem dL_isCounted_324 : decode cL_isCounted 324 = .ok (.aload_n 0, 1) := by decide +kernel
theorem dL_isCounted_325 : decode cL_isCounted 325 = .ok (.aload_n 1, 1) := by decide +kernel
theorem dL_isCounted_326 : decode cL_isCounted 326 = .ok (.lload_n 3, 1) := by decide +kernel
theorem dL_isCounted_327 : decode cL_isCounted 327 = .ok (.invokestatic 112, 3) := by decide +kernel
theorem dL_isCounted_330 : decode cL_isCounted 330 = .ok (.ifCond .eq 7, 3) := by decide +kernel
theorem dL_isCounted_333 : decode cL_isCounted 333 = .ok (.iconst 1, 1) := by decide +kernel
theorem dL_isCounted_334 : decode cL_isCounted 334 = .ok (.goto 4, 3) := by decide +kernel
theorem dL_isCounted_337 : decode cL_isCounted 337 = .ok (.iconst 0, 1) := by decide +kernel
theorem dL_isCounted_338 : decode cL_isCounted 338 = .ok (.istore 7, 2) := by decide +kernel
theorem dL_isCounted_340 : decode cL_isCounted 340 = .ok (.aload_n 0, 1) := by decide +kernel
theorem dL_isCounted_341 : decode cL_isCounted 341 = .ok (.bipush 12, 2) := by decide +kernel
theorem dL_isCounted_343 : decode cL_isCounted 343 = .ok (.iload 10, 2) := by decide +kernel
theorem dL_isCounted_345 : decode cL_isCounted 345 = .ok (.iconst 1, 1) := by decide +kernel
theorem dL_isCounted_346 : decode cL_isCounted 346 = .ok (.isub, 1) := by decide +kernel
theorem dL_isCounted_347 : decode cL_isCounted 347 = .ok (.iconst 0, 1) := by decide +kernel
theorem dL_isCounted_348 : decode cL_isCounted 348 = .ok (.iconst 0, 1) := by decide +kernel
theorem dL_isCounted_349 : decode cL_isCounted 349 = .ok (.invokestatic 97, 3) := by decide +kernel
theorem dL_isCounted_352 : decode cL_isCounted 352 = .ok (.istore 12, 2) := by decide +kernel
theorem dL_isCounted_354 : decode cL_isCounted 354 = .ok (.iload 7, 2) := by decide +kernel
theorem dL_isCounted_356 : decode cL_isCounted 356 = .ok (.ifCond .eq 16, 3) := by decide +kernel
theorem dL_isCounted_359 : decode cL_isCounted 359 = .ok (.aload_n 0, 1) := by decide +kernel
theorem dL_isCounted_360 : decode cL_isCounted 360 = .ok (.aload_n 1, 1) := by decide +kernel
theorem dL_isCounted_361 : decode cL_isCounted 361 = .ok (.lload_n 3, 1) := by decide +kernel
theorem dL_isCounted_362 : decode cL_isCounted 362 = .ok (.invokestatic 112, 3) := by decide +kernel
theorem dL_isCounted_365 : decode cL_isCounted 365 = .ok (.ifCond .eq 7, 3) := by decide +kernel
theorem dL_isCounted_368 : decode cL_isCounted 368 = .ok (.iconst 1, 1) := by decide +kernel
theorem dL_isCounted_369 : decode cL_isCounted 369 = .ok (.goto 4, 3) := by decide +kernel
theorem dL_isCounted_372 : decode cL_isCounted 372 = .ok (.iconst 0, 1) := by decide +kernel
theorem dL_isCounted_373 : decode cL_isCounted 373 = .ok (.istore 7, 2) := by decide +kernel
theorem dL_isCounted_375 : decode cL_isCounted 375 = .ok (.iload 10, 2) := by decide +kernel
theorem dL_isCounted_377 : decode cL_isCounted 377 = .ok (.iconst 2, 1) := by decide +kernel
theorem dL_isCounted_378 : decode cL_isCounted 378 = .ok (.if_icmp .ne 7, 3) := by decide +kernel
theorem dL_isCounted_381 : decode cL_isCounted 381 = .ok (.iconst 0, 1) := by decide +kernel
theorem dL_isCounted_382 : decode cL_isCounted 382 = .ok (.goto 15, 3) := by decide +kernel
theorem dL_isCounted_385 : decode cL_isCounted 385 = .ok (.aload_n 0, 1) := by decide +kernel
theorem dL_isCounted_386 : decode cL_isCounted 386 = .ok (.bipush 12, 2) := by decide +kernel
theorem dL_isCounted_388 : decode cL_isCounted 388 = .ok (.iload 10, 2) := by decide +kernel
theorem dL_isCounted_390 : decode cL_isCounted 390 = .ok (.iconst 2, 1) := by decide +kernel
theorem dL_isCounted_391 : decode cL_isCounted 391 = .ok (.isub, 1) := by decide +kernel
theorem dL_isCounted_392 : decode cL_isCounted 392 = .ok (.iconst 0, 1) := by decide +kernel
theorem dL_isCounted_393 : decode cL_isCounted 393 = .ok (.iconst 0, 1) := by decide +kernel
theorem dL_isCounted_394 : decode cL_isCounted 394 = .ok (.invokestatic 97, 3) := by decide +kernel
theorem dL_isCounted_397 : decode cL_isCounted 397 = .ok (.istore 13, 2) := by decide +kernel
theorem dL_isCounted_399 : decode cL_isCounted 399 = .ok (.iload 7, 2) := by decide +kernel
theorem dL_isCounted_401 : decode cL_isCounted 401 = .ok (.ifCond .eq 27, 3) := by decide +kernel
theorem dL_isCounted_404 : decode cL_isCounted 404 = .ok (.iload 10, 2) := by decide +kernel
theorem dL_isCounted_406 : decode cL_isCounted 406 = .ok (.iconst 2, 1) := by decide +kernel
theorem dL_isCounted_407 : decode cL_isCounted 407 = .ok (.if_icmp .ne 17, 3) := by decide +kernel
theorem dL_isCounted_410 : decode cL_isCounted 410 = .ok (.aload_n 0, 1) := by decide +kernel
theorem dL_isCounted_411 : decode cL_isCounted 411 = .ok (.bipush 13, 2) := by decide +kernel
theorem dL_isCounted_413 : decode cL_isCounted 413 = .ok (.iconst 1, 1) := by decide +kernel
theorem dL_isCounted_414 : decode cL_isCounted 414 = .ok (.iconst 0, 1) := by decide +kernel
theorem dL_isCounted_415 : decode cL_isCounted 415 = .ok (.iconst 0, 1) := by decide +kernel
theorem dL_isCounted_416 : decode cL_isCounted 416 = .ok (.invokestatic 97, 3) := by decide +kernel
theorem dL_isCounted_419 : decode cL_isCounted 419 = .ok (.bipush 6, 2) := by decide +kernel
theorem dL_isCounted_421 : decode cL_isCounted 421 = .ok (.if_icmp .ne 7, 3) := by decide +kernel
theorem dL_isCounted_424 : decode cL_isCounted 424 = .ok (.iconst 1, 1) := by decide +kernel
theorem dL_isCounted_425 : decode cL_isCounted 425 = .ok (.goto 4, 3) := by decide +kernel
theorem dL_isCounted_428 : decode cL_isCounted 428 = .ok (.iconst 0, 1) := by decide +kernel
theorem dL_isCounted_429 : decode cL_isCounted 429 = .ok (.istore 7, 2) := by decide +kernel
theorem dL_isCounted_431 : decode cL_isCounted 431 = .ok (.aload_n 1, 1) := by decide +kernel
theorem dL_isCounted_432 : decode cL_isCounted 432 = .ok (.iconst 5, 1) := by decide +kernel
theorem dL_isCounted_433 : decode cL_isCounted 433 = .ok (.iconst 0, 1) := by decide +kernel
theorem dL_isCounted_434 : decode cL_isCounted 434 = .ok (.iastore, 1) := by decide +kernel
theorem dL_isCounted_435 : decode cL_isCounted 435 = .ok (.iload 7, 2) := by decide +kernel
theorem dL_isCounted_437 : decode cL_isCounted 437 = .ok (.ifCond .eq 27, 3) := by decide +kernel
theorem dL_isCounted_440 : decode cL_isCounted 440 = .ok (.iload 11, 2) := by decide +kernel
theorem dL_isCounted_442 : decode cL_isCounted 442 = .ok (.iload 12, 2) := by decide +kernel
theorem dL_isCounted_444 : decode cL_isCounted 444 = .ok (.isub, 1) := by decide +kernel
theorem dL_isCounted_445 : decode cL_isCounted 445 = .ok (.iload 6, 2) := by decide +kernel
theorem dL_isCounted_447 : decode cL_isCounted 447 = .ok (.if_icmp .lt 17, 3) := by decide +kernel
theorem dL_isCounted_450 : decode cL_isCounted 450 = .ok (.iload 12, 2) := by decide +kernel
theorem dL_isCounted_452 : decode cL_isCounted 452 = .ok (.iload 13, 2) := by decide +kernel
theorem dL_isCounted_454 : decode cL_isCounted 454 = .ok (.isub, 1) := by decide +kernel
theorem dL_isCounted_455 : decode cL_isCounted 455 = .ok (.iload 6, 2) := by decide +kernel
theorem dL_isCounted_457 : decode cL_isCounted 457 = .ok (.if_icmp .ge 7, 3) := by decide +kernel
theorem dL_isCounted_460 : decode cL_isCounted 460 = .ok (.iconst 1, 1) := by decide +kernel
theorem dL_isCounted_461 : decode cL_isCounted 461 = .ok (.goto 4, 3) := by decide +kernel
theorem dL_isCounted_464 : decode cL_isCounted 464 = .ok (.iconst 0, 1) := by decide +kernel
theorem dL_isCounted_465 : decode cL_isCounted 465 = .ok (.ireturn, 1) := by decide +kernel

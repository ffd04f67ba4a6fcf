theorem dX10_init_0 : decode cX10_init 0 = .ok (.aload_n 0, 1) := by decide +kernel
theorem dX10_init_1 : decode cX10_init 1 = .ok (.invokespecial 1, 3) := by decide +kernel
theorem dX10_init_4 : decode cX10_init 4 = .ok (.aload_n 0, 1) := by decide +kernel
theorem dX10_init_5 : decode cX10_init 5 = .ok (.iconst 4, 1) := by decide +kernel
theorem dX10_init_6 : decode cX10_init 6 = .ok (.newarray .int, 2) := by decide +kernel
theorem dX10_init_8 : decode cX10_init 8 = .ok (.dup, 1) := by decide +kernel
theorem dX10_init_9 : decode cX10_init 9 = .ok (.iconst 0, 1) := by decide +kernel
theorem dX10_init_10 : decode cX10_init 10 = .ok (.iconst (-1), 1) := by decide +kernel
theorem dX10_init_11 : decode cX10_init 11 = .ok (.iastore, 1) := by decide +kernel
theorem dX10_init_12 : decode cX10_init 12 = .ok (.dup, 1) := by decide +kernel
theorem dX10_init_13 : decode cX10_init 13 = .ok (.iconst 1, 1) := by decide +kernel
theorem dX10_init_14 : decode cX10_init 14 = .ok (.iconst (-1), 1) := by decide +kernel
theorem dX10_init_15 : decode cX10_init 15 = .ok (.iastore, 1) := by decide +kernel
theorem dX10_init_16 : decode cX10_init 16 = .ok (.dup, 1) := by decide +kernel
theorem dX10_init_17 : decode cX10_init 17 = .ok (.iconst 2, 1) := by decide +kernel
theorem dX10_init_18 : decode cX10_init 18 = .ok (.iconst (-1), 1) := by decide +kernel
theorem dX10_init_19 : decode cX10_init 19 = .ok (.iastore, 1) := by decide +kernel
theorem dX10_init_20 : decode cX10_init 20 = .ok (.dup, 1) := by decide +kernel
theorem dX10_init_21 : decode cX10_init 21 = .ok (.iconst 3, 1) := by decide +kernel
theorem dX10_init_22 : decode cX10_init 22 = .ok (.iconst (-1), 1) := by decide +kernel
theorem dX10_init_23 : decode cX10_init 23 = .ok (.iastore, 1) := by decide +kernel
theorem dX10_init_24 : decode cX10_init 24 = .ok (.putfield 9, 3) := by decide +kernel
theorem dX10_init_27 : decode cX10_init 27 = .ok (.aload_n 0, 1) := by decide +kernel
theorem dX10_init_28 : decode cX10_init 28 = .ok (.iconst 4, 1) := by decide +kernel
theorem dX10_init_29 : decode cX10_init 29 = .ok (.newarray .int, 2) := by decide +kernel
theorem dX10_init_31 : decode cX10_init 31 = .ok (.putfield 13, 3) := by decide +kernel
theorem dX10_init_34 : decode cX10_init 34 = .ok (.aload_n 0, 1) := by decide +kernel
theorem dX10_init_35 : decode cX10_init 35 = .ok (.sipush 240, 3) := by decide +kernel
theorem dX10_init_38 : decode cX10_init 38 = .ok (.newarray .long, 2) := by decide +kernel
theorem dX10_init_40 : decode cX10_init 40 = .ok (.putfield 16, 3) := by decide +kernel
theorem dX10_init_43 : decode cX10_init 43 = .ok (.aload_n 0, 1) := by decide +kernel
theorem dX10_init_44 : decode cX10_init 44 = .ok (.bipush 60, 2) := by decide +kernel
theorem dX10_init_46 : decode cX10_init 46 = .ok (.newarray .long, 2) := by decide +kernel
theorem dX10_init_48 : decode cX10_init 48 = .ok (.putfield 20, 3) := by decide +kernel
theorem dX10_init_51 : decode cX10_init 51 = .ok (.aload_n 0, 1) := by decide +kernel
theorem dX10_init_52 : decode cX10_init 52 = .ok (.bipush 8, 2) := by decide +kernel
theorem dX10_init_54 : decode cX10_init 54 = .ok (.putfield 23, 3) := by decide +kernel
theorem dX10_init_57 : decode cX10_init 57 = .ok (.aload_n 0, 1) := by decide +kernel
theorem dX10_init_58 : decode cX10_init 58 = .ok (.sipush 256, 3) := by decide +kernel
theorem dX10_init_61 : decode cX10_init 61 = .ok (.putfield 27, 3) := by decide +kernel
theorem dX10_init_64 : decode cX10_init 64 = .ok (.aload_n 0, 1) := by decide +kernel
theorem dX10_init_65 : decode cX10_init 65 = .ok (.bipush 50, 2) := by decide +kernel
theorem dX10_init_67 : decode cX10_init 67 = .ok (.putfield 30, 3) := by decide +kernel
theorem dX10_init_70 : decode cX10_init 70 = .ok (.aload_n 0, 1) := by decide +kernel
theorem dX10_init_71 : decode cX10_init 71 = .ok (.iconst 2, 1) := by decide +kernel
theorem dX10_init_72 : decode cX10_init 72 = .ok (.putfield 33, 3) := by decide +kernel
theorem dX10_init_75 : decode cX10_init 75 = .ok (.aload_n 0, 1) := by decide +kernel
theorem dX10_init_76 : decode cX10_init 76 = .ok (.bipush 6, 2) := by decide +kernel
theorem dX10_init_78 : decode cX10_init 78 = .ok (.newarray .int, 2) := by decide +kernel
theorem dX10_init_80 : decode cX10_init 80 = .ok (.putfield 36, 3) := by decide +kernel
theorem dX10_init_83 : decode cX10_init 83 = .ok (.aload_n 0, 1) := by decide +kernel
theorem dX10_init_84 : decode cX10_init 84 = .ok (.sipush 360, 3) := by decide +kernel
theorem dX10_init_87 : decode cX10_init 87 = .ok (.newarray .int, 2) := by decide +kernel
theorem dX10_init_89 : decode cX10_init 89 = .ok (.putfield 39, 3) := by decide +kernel
theorem dX10_init_92 : decode cX10_init 92 = .ok (.aload_n 0, 1) := by decide +kernel
theorem dX10_init_93 : decode cX10_init 93 = .ok (.bipush 6, 2) := by decide +kernel
theorem dX10_init_95 : decode cX10_init 95 = .ok (.newarray .int, 2) := by decide +kernel
theorem dX10_init_97 : decode cX10_init 97 = .ok (.putfield 42, 3) := by decide +kernel
theorem dX10_init_100 : decode cX10_init 100 = .ok (.aload_n 0, 1) := by decide +kernel
theorem dX10_init_101 : decode cX10_init 101 = .ok (.bipush 6, 2) := by decide +kernel
theorem dX10_init_103 : decode cX10_init 103 = .ok (.newarray .int, 2) := by decide +kernel
theorem dX10_init_105 : decode cX10_init 105 = .ok (.putfield 45, 3) := by decide +kernel
theorem dX10_init_108 : decode cX10_init 108 = .ok (.aload_n 0, 1) := by decide +kernel
theorem dX10_init_109 : decode cX10_init 109 = .ok (.bipush 6, 2) := by decide +kernel
theorem dX10_init_111 : decode cX10_init 111 = .ok (.newarray .int, 2) := by decide +kernel
theorem dX10_init_113 : decode cX10_init 113 = .ok (.putfield 48, 3) := by decide +kernel
theorem dX10_init_116 : decode cX10_init 116 = .ok (.aload_n 0, 1) := by decide +kernel
theorem dX10_init_117 : decode cX10_init 117 = .ok (.sipush 2400, 3) := by decide +kernel
theorem dX10_init_120 : decode cX10_init 120 = .ok (.newarray .int, 2) := by decide +kernel
theorem dX10_init_122 : decode cX10_init 122 = .ok (.putfield 51, 3) := by decide +kernel
theorem dX10_init_125 : decode cX10_init 125 = .ok (.aload_n 0, 1) := by decide +kernel
theorem dX10_init_126 : decode cX10_init 126 = .ok (.bipush 6, 2) := by decide +kernel
theorem dX10_init_128 : decode cX10_init 128 = .ok (.newarray .int, 2) := by decide +kernel
theorem dX10_init_130 : decode cX10_init 130 = .ok (.putfield 54, 3) := by decide +kernel
theorem dX10_init_133 : decode cX10_init 133 = .ok (.aload_n 0, 1) := by decide +kernel
theorem dX10_init_134 : decode cX10_init 134 = .ok (.bipush 6, 2) := by decide +kernel
theorem dX10_init_136 : decode cX10_init 136 = .ok (.newarray .int, 2) := by decide +kernel
theorem dX10_init_138 : decode cX10_init 138 = .ok (.putfield 57, 3) := by decide +kernel
theorem dX10_init_141 : decode cX10_init 141 = .ok (.aload_n 0, 1) := by decide +kernel
theorem dX10_init_142 : decode cX10_init 142 = .ok (.sipush 390, 3) := by decide +kernel
theorem dX10_init_145 : decode cX10_init 145 = .ok (.newarray .int, 2) := by decide +kernel
theorem dX10_init_147 : decode cX10_init 147 = .ok (.putfield 60, 3) := by decide +kernel
theorem dX10_init_150 : decode cX10_init 150 = .ok (.aload_n 0, 1) := by decide +kernel
theorem dX10_init_151 : decode cX10_init 151 = .ok (.sipush 455, 3) := by decide +kernel
theorem dX10_init_154 : decode cX10_init 154 = .ok (.newarray .long, 2) := by decide +kernel
theorem dX10_init_156 : decode cX10_init 156 = .ok (.putfield 63, 3) := by decide +kernel
theorem dX10_init_159 : decode cX10_init 159 = .ok (.aload_n 0, 1) := by decide +kernel
theorem dX10_init_160 : decode cX10_init 160 = .ok (.bipush 6, 2) := by decide +kernel
theorem dX10_init_162 : decode cX10_init 162 = .ok (.newarray .int, 2) := by decide +kernel
theorem dX10_init_164 : decode cX10_init 164 = .ok (.putfield 66, 3) := by decide +kernel
theorem dX10_init_167 : decode cX10_init 167 = .ok (.aload_n 0, 1) := by decide +kernel
theorem dX10_init_168 : decode cX10_init 168 = .ok (.bipush 6, 2) := by decide +kernel
theorem dX10_init_170 : decode cX10_init 170 = .ok (.newarray .int, 2) := by decide +kernel
theorem dX10_init_172 : decode cX10_init 172 = .ok (.putfield 69, 3) := by decide +kernel
theorem dX10_init_175 : decode cX10_init 175 = .ok (.aload_n 0, 1) := by decide +kernel
theorem dX10_init_176 : decode cX10_init 176 = .ok (.bipush 6, 2) := by decide +kernel
theorem dX10_init_178 : decode cX10_init 178 = .ok (.newarray .int, 2) := by decide +kernel
theorem dX10_init_180 : decode cX10_init 180 = .ok (.putfield 72, 3) := by decide +kernel
theorem dX10_init_183 : decode cX10_init 183 = .ok (.aload_n 0, 1) := by decide +kernel
theorem dX10_init_184 : decode cX10_init 184 = .ok (.bipush 6, 2) := by decide +kernel
theorem dX10_init_186 : decode cX10_init 186 = .ok (.newarray .int, 2) := by decide +kernel
theorem dX10_init_188 : decode cX10_init 188 = .ok (.putfield 75, 3) := by decide +kernel
theorem dX10_init_191 : decode cX10_init 191 = .ok (.aload_n 0, 1) := by decide +kernel
theorem dX10_init_192 : decode cX10_init 192 = .ok (.bipush 6, 2) := by decide +kernel
theorem dX10_init_194 : decode cX10_init 194 = .ok (.newarray .int, 2) := by decide +kernel
theorem dX10_init_196 : decode cX10_init 196 = .ok (.putfield 78, 3) := by decide +kernel
theorem dX10_init_199 : decode cX10_init 199 = .ok (.aload_n 0, 1) := by decide +kernel
theorem dX10_init_200 : decode cX10_init 200 = .ok (.bipush 6, 2) := by decide +kernel
theorem dX10_init_202 : decode cX10_init 202 = .ok (.newarray .int, 2) := by decide +kernel
theorem dX10_init_204 : decode cX10_init 204 = .ok (.putfield 81, 3) := by decide +kernel
theorem dX10_init_207 : decode cX10_init 207 = .ok (.aload_n 0, 1) := by decide +kernel
theorem dX10_init_208 : decode cX10_init 208 = .ok (.bipush 6, 2) := by decide +kernel
theorem dX10_init_210 : decode cX10_init 210 = .ok (.newarray .int, 2) := by decide +kernel
theorem dX10_init_212 : decode cX10_init 212 = .ok (.putfield 84, 3) := by decide +kernel
theorem dX10_init_215 : decode cX10_init 215 = .ok (.aload_n 0, 1) := by decide +kernel
theorem dX10_init_216 : decode cX10_init 216 = .ok (.bipush 6, 2) := by decide +kernel
theorem dX10_init_218 : decode cX10_init 218 = .ok (.newarray .int, 2) := by decide +kernel
theorem dX10_init_220 : decode cX10_init 220 = .ok (.putfield 87, 3) := by decide +kernel
theorem dX10_init_223 : decode cX10_init 223 = .ok (.aload_n 0, 1) := by decide +kernel
theorem dX10_init_224 : decode cX10_init 224 = .ok (.bipush 6, 2) := by decide +kernel
theorem dX10_init_226 : decode cX10_init 226 = .ok (.newarray .int, 2) := by decide +kernel
theorem dX10_init_228 : decode cX10_init 228 = .ok (.putfield 90, 3) := by decide +kernel
theorem dX10_init_231 : decode cX10_init 231 = .ok (.aload_n 0, 1) := by decide +kernel
theorem dX10_init_232 : decode cX10_init 232 = .ok (.bipush 6, 2) := by decide +kernel
theorem dX10_init_234 : decode cX10_init 234 = .ok (.newarray .int, 2) := by decide +kernel
theorem dX10_init_236 : decode cX10_init 236 = .ok (.putfield 93, 3) := by decide +kernel
theorem dX10_init_239 : decode cX10_init 239 = .ok (.aload_n 0, 1) := by decide +kernel
theorem dX10_init_240 : decode cX10_init 240 = .ok (.bipush 6, 2) := by decide +kernel
theorem dX10_init_242 : decode cX10_init 242 = .ok (.newarray .int, 2) := by decide +kernel
theorem dX10_init_244 : decode cX10_init 244 = .ok (.putfield 96, 3) := by decide +kernel
theorem dX10_init_247 : decode cX10_init 247 = .ok (.aload_n 0, 1) := by decide +kernel
theorem dX10_init_248 : decode cX10_init 248 = .ok (.bipush 6, 2) := by decide +kernel
theorem dX10_init_250 : decode cX10_init 250 = .ok (.newarray .int, 2) := by decide +kernel
theorem dX10_init_252 : decode cX10_init 252 = .ok (.putfield 99, 3) := by decide +kernel
theorem dX10_init_255 : decode cX10_init 255 = .ok (.aload_n 0, 1) := by decide +kernel
theorem dX10_init_256 : decode cX10_init 256 = .ok (.bipush 6, 2) := by decide +kernel
theorem dX10_init_258 : decode cX10_init 258 = .ok (.newarray .int, 2) := by decide +kernel
theorem dX10_init_260 : decode cX10_init 260 = .ok (.putfield 102, 3) := by decide +kernel
theorem dX10_init_263 : decode cX10_init 263 = .ok (.aload_n 0, 1) := by decide +kernel
theorem dX10_init_264 : decode cX10_init 264 = .ok (.bipush 6, 2) := by decide +kernel
theorem dX10_init_266 : decode cX10_init 266 = .ok (.newarray .int, 2) := by decide +kernel
theorem dX10_init_268 : decode cX10_init 268 = .ok (.putfield 105, 3) := by decide +kernel
theorem dX10_init_271 : decode cX10_init 271 = .ok (.aload_n 0, 1) := by decide +kernel
theorem dX10_init_272 : decode cX10_init 272 = .ok (.bipush 6, 2) := by decide +kernel
theorem dX10_init_274 : decode cX10_init 274 = .ok (.newarray .boolean, 2) := by decide +kernel
theorem dX10_init_276 : decode cX10_init 276 = .ok (.putfield 108, 3) := by decide +kernel
theorem dX10_init_279 : decode cX10_init 279 = .ok (.aload_n 0, 1) := by decide +kernel
theorem dX10_init_280 : decode cX10_init 280 = .ok (.bipush 6, 2) := by decide +kernel
theorem dX10_init_282 : decode cX10_init 282 = .ok (.newarray .boolean, 2) := by decide +kernel
theorem dX10_init_284 : decode cX10_init 284 = .ok (.putfield 112, 3) := by decide +kernel
theorem dX10_init_287 : decode cX10_init 287 = .ok (.aload_n 0, 1) := by decide +kernel
theorem dX10_init_288 : decode cX10_init 288 = .ok (.sipush 14400, 3) := by decide +kernel
theorem dX10_init_291 : decode cX10_init 291 = .ok (.newarray .int, 2) := by decide +kernel
theorem dX10_init_293 : decode cX10_init 293 = .ok (.putfield 115, 3) := by decide +kernel
theorem dX10_init_296 : decode cX10_init 296 = .ok (.aload_n 0, 1) := by decide +kernel
theorem dX10_init_297 : decode cX10_init 297 = .ok (.sipush 240, 3) := by decide +kernel
theorem dX10_init_300 : decode cX10_init 300 = .ok (.newarray .int, 2) := by decide +kernel
theorem dX10_init_302 : decode cX10_init 302 = .ok (.putfield 118, 3) := by decide +kernel
theorem dX10_init_305 : decode cX10_init 305 = .ok (.return_, 1) := by decide +kernel
theorem dX10_in_0 : decode cX10_in 0 = .ok (.iload_n 0, 1) := by decide +kernel
theorem dX10_in_1 : decode cX10_in 1 = .ok (.iload_n 1, 1) := by decide +kernel
theorem dX10_in_2 : decode cX10_in 2 = .ok (.if_icmp .lt 12, 3) := by decide +kernel
theorem dX10_in_5 : decode cX10_in 5 = .ok (.iload_n 0, 1) := by decide +kernel
theorem dX10_in_6 : decode cX10_in 6 = .ok (.iload_n 2, 1) := by decide +kernel
theorem dX10_in_7 : decode cX10_in 7 = .ok (.if_icmp .gt 7, 3) := by decide +kernel
theorem dX10_in_10 : decode cX10_in 10 = .ok (.iconst 1, 1) := by decide +kernel
theorem dX10_in_11 : decode cX10_in 11 = .ok (.goto 4, 3) := by decide +kernel
theorem dX10_in_14 : decode cX10_in 14 = .ok (.iconst 0, 1) := by decide +kernel
theorem dX10_in_15 : decode cX10_in 15 = .ok (.ireturn, 1) := by decide +kernel
theorem dX10_isSlot_0 : decode cX10_isSlot 0 = .ok (.iload_n 0, 1) := by decide +kernel
theorem dX10_isSlot_1 : decode cX10_isSlot 1 = .ok (.iconst 0, 1) := by decide +kernel
theorem dX10_isSlot_2 : decode cX10_isSlot 2 = .ok (.iconst 3, 1) := by decide +kernel
theorem dX10_isSlot_3 : decode cX10_isSlot 3 = .ok (.invokestatic 124, 3) := by decide +kernel
theorem dX10_isSlot_6 : decode cX10_isSlot 6 = .ok (.ireturn, 1) := by decide +kernel
theorem dX10_cut_0 : decode cX10_cut 0 = .ok (.iload_n 0, 1) := by decide +kernel
theorem dX10_cut_1 : decode cX10_cut 1 = .ok (.ifCond .ne 10, 3) := by decide +kernel
theorem dX10_cut_4 : decode cX10_cut 4 = .ok (.lload_n 1, 1) := by decide +kernel
theorem dX10_cut_5 : decode cX10_cut 5 = .ok (.l2i, 1) := by decide +kernel
theorem dX10_cut_6 : decode cX10_cut 6 = .ok (.i2b, 1) := by decide +kernel
theorem dX10_cut_7 : decode cX10_cut 7 = .ok (.i2l, 1) := by decide +kernel
theorem dX10_cut_8 : decode cX10_cut 8 = .ok (.goto 27, 3) := by decide +kernel
theorem dX10_cut_11 : decode cX10_cut 11 = .ok (.iload_n 0, 1) := by decide +kernel
theorem dX10_cut_12 : decode cX10_cut 12 = .ok (.iconst 1, 1) := by decide +kernel
theorem dX10_cut_13 : decode cX10_cut 13 = .ok (.if_icmp .ne 10, 3) := by decide +kernel
theorem dX10_cut_16 : decode cX10_cut 16 = .ok (.lload_n 1, 1) := by decide +kernel
theorem dX10_cut_17 : decode cX10_cut 17 = .ok (.l2i, 1) := by decide +kernel
theorem dX10_cut_18 : decode cX10_cut 18 = .ok (.i2s, 1) := by decide +kernel
theorem dX10_cut_19 : decode cX10_cut 19 = .ok (.i2l, 1) := by decide +kernel
theorem dX10_cut_20 : decode cX10_cut 20 = .ok (.goto 15, 3) := by decide +kernel
theorem dX10_cut_23 : decode cX10_cut 23 = .ok (.iload_n 0, 1) := by decide +kernel
theorem dX10_cut_24 : decode cX10_cut 24 = .ok (.iconst 2, 1) := by decide +kernel
theorem dX10_cut_25 : decode cX10_cut 25 = .ok (.if_icmp .ne 9, 3) := by decide +kernel
theorem dX10_cut_28 : decode cX10_cut 28 = .ok (.lload_n 1, 1) := by decide +kernel
theorem dX10_cut_29 : decode cX10_cut 29 = .ok (.l2i, 1) := by decide +kernel
theorem dX10_cut_30 : decode cX10_cut 30 = .ok (.i2l, 1) := by decide +kernel
theorem dX10_cut_31 : decode cX10_cut 31 = .ok (.goto 4, 3) := by decide +kernel
theorem dX10_cut_34 : decode cX10_cut 34 = .ok (.lload_n 1, 1) := by decide +kernel
theorem dX10_cut_35 : decode cX10_cut 35 = .ok (.lreturn, 1) := by decide +kernel
theorem dX10_row_0 : decode cX10_row 0 = .ok (.aload_n 0, 1) := by decide +kernel
theorem dX10_row_1 : decode cX10_row 1 = .ok (.iconst 0, 1) := by decide +kernel
theorem dX10_row_2 : decode cX10_row 2 = .ok (.putfield 121, 3) := by decide +kernel
theorem dX10_row_5 : decode cX10_row 5 = .ok (.iload_n 1, 1) := by decide +kernel
theorem dX10_row_6 : decode cX10_row 6 = .ok (.invokestatic 128, 3) := by decide +kernel
theorem dX10_row_9 : decode cX10_row 9 = .ok (.ifCond .eq 18, 3) := by decide +kernel
theorem dX10_row_12 : decode cX10_row 12 = .ok (.iload_n 2, 1) := by decide +kernel
theorem dX10_row_13 : decode cX10_row 13 = .ok (.iconst 0, 1) := by decide +kernel
theorem dX10_row_14 : decode cX10_row 14 = .ok (.iconst 3, 1) := by decide +kernel
theorem dX10_row_15 : decode cX10_row 15 = .ok (.invokestatic 124, 3) := by decide +kernel
theorem dX10_row_18 : decode cX10_row 18 = .ok (.ifCond .eq 9, 3) := by decide +kernel
theorem dX10_row_21 : decode cX10_row 21 = .ok (.iload_n 3, 1) := by decide +kernel
theorem dX10_row_22 : decode cX10_row 22 = .ok (.bipush 60, 2) := by decide +kernel
theorem dX10_row_24 : decode cX10_row 24 = .ok (.if_icmp .le 6, 3) := by decide +kernel
theorem dX10_row_27 : decode cX10_row 27 = .ok (.bipush (-2), 2) := by decide +kernel
theorem dX10_row_29 : decode cX10_row 29 = .ok (.ireturn, 1) := by decide +kernel
theorem dX10_row_30 : decode cX10_row 30 = .ok (.iload_n 3, 1) := by decide +kernel
theorem dX10_row_31 : decode cX10_row 31 = .ok (.ifCond .ge 6, 3) := by decide +kernel
theorem dX10_row_34 : decode cX10_row 34 = .ok (.bipush (-3), 2) := by decide +kernel
theorem dX10_row_36 : decode cX10_row 36 = .ok (.ireturn, 1) := by decide +kernel
theorem dX10_row_37 : decode cX10_row 37 = .ok (.aload_n 0, 1) := by decide +kernel
theorem dX10_row_38 : decode cX10_row 38 = .ok (.getfield 9, 3) := by decide +kernel
theorem dX10_row_41 : decode cX10_row 41 = .ok (.iload_n 1, 1) := by decide +kernel
theorem dX10_row_42 : decode cX10_row 42 = .ok (.iload_n 2, 1) := by decide +kernel
theorem dX10_row_43 : decode cX10_row 43 = .ok (.iastore, 1) := by decide +kernel
theorem dX10_row_44 : decode cX10_row 44 = .ok (.aload_n 0, 1) := by decide +kernel
theorem dX10_row_45 : decode cX10_row 45 = .ok (.getfield 13, 3) := by decide +kernel
theorem dX10_row_48 : decode cX10_row 48 = .ok (.iload_n 1, 1) := by decide +kernel
theorem dX10_row_49 : decode cX10_row 49 = .ok (.iload_n 3, 1) := by decide +kernel
theorem dX10_row_50 : decode cX10_row 50 = .ok (.iastore, 1) := by decide +kernel
theorem dX10_row_51 : decode cX10_row 51 = .ok (.iconst 0, 1) := by decide +kernel
theorem dX10_row_52 : decode cX10_row 52 = .ok (.istore 4, 2) := by decide +kernel
theorem dX10_row_54 : decode cX10_row 54 = .ok (.iload 4, 2) := by decide +kernel
theorem dX10_row_56 : decode cX10_row 56 = .ok (.bipush 60, 2) := by decide +kernel
theorem dX10_row_58 : decode cX10_row 58 = .ok (.if_icmp .ge 22, 3) := by decide +kernel
theorem dX10_row_61 : decode cX10_row 61 = .ok (.aload_n 0, 1) := by decide +kernel
theorem dX10_row_62 : decode cX10_row 62 = .ok (.getfield 16, 3) := by decide +kernel
theorem dX10_row_65 : decode cX10_row 65 = .ok (.bipush 60, 2) := by decide +kernel
theorem dX10_row_67 : decode cX10_row 67 = .ok (.iload_n 1, 1) := by decide +kernel
theorem dX10_row_68 : decode cX10_row 68 = .ok (.imul, 1) := by decide +kernel
theorem dX10_row_69 : decode cX10_row 69 = .ok (.iload 4, 2) := by decide +kernel
theorem dX10_row_71 : decode cX10_row 71 = .ok (.iadd, 1) := by decide +kernel
theorem dX10_row_72 : decode cX10_row 72 = .ok (.lconst 0, 1) := by decide +kernel
theorem dX10_row_73 : decode cX10_row 73 = .ok (.lastore, 1) := by decide +kernel
theorem dX10_row_74 : decode cX10_row 74 = .ok (.iinc 4 1, 3) := by decide +kernel
theorem dX10_row_77 : decode cX10_row 77 = .ok (.goto (-23), 3) := by decide +kernel
theorem dX10_row_80 : decode cX10_row 80 = .ok (.iconst 0, 1) := by decide +kernel
theorem dX10_row_81 : decode cX10_row 81 = .ok (.ireturn, 1) := by decide +kernel
theorem dX10_tear_0 : decode cX10_tear 0 = .ok (.aload_n 0, 1) := by decide +kernel
theorem dX10_tear_1 : decode cX10_tear 1 = .ok (.iconst 0, 1) := by decide +kernel
theorem dX10_tear_2 : decode cX10_tear 2 = .ok (.putfield 121, 3) := by decide +kernel
theorem dX10_tear_5 : decode cX10_tear 5 = .ok (.iload_n 1, 1) := by decide +kernel
theorem dX10_tear_6 : decode cX10_tear 6 = .ok (.invokestatic 128, 3) := by decide +kernel
theorem dX10_tear_9 : decode cX10_tear 9 = .ok (.ifCond .eq 12, 3) := by decide +kernel
theorem dX10_tear_12 : decode cX10_tear 12 = .ok (.aload_n 0, 1) := by decide +kernel
theorem dX10_tear_13 : decode cX10_tear 13 = .ok (.getfield 9, 3) := by decide +kernel
theorem dX10_tear_16 : decode cX10_tear 16 = .ok (.iload_n 1, 1) := by decide +kernel
theorem dX10_tear_17 : decode cX10_tear 17 = .ok (.iaload, 1) := by decide +kernel
theorem dX10_tear_18 : decode cX10_tear 18 = .ok (.ifCond .ge 5, 3) := by decide +kernel
theorem dX10_tear_21 : decode cX10_tear 21 = .ok (.iconst 0, 1) := by decide +kernel
theorem dX10_tear_22 : decode cX10_tear 22 = .ok (.ireturn, 1) := by decide +kernel
theorem dX10_tear_23 : decode cX10_tear 23 = .ok (.aload_n 0, 1) := by decide +kernel
theorem dX10_tear_24 : decode cX10_tear 24 = .ok (.getfield 9, 3) := by decide +kernel
theorem dX10_tear_27 : decode cX10_tear 27 = .ok (.iload_n 1, 1) := by decide +kernel
theorem dX10_tear_28 : decode cX10_tear 28 = .ok (.iconst (-1), 1) := by decide +kernel
theorem dX10_tear_29 : decode cX10_tear 29 = .ok (.iastore, 1) := by decide +kernel
theorem dX10_tear_30 : decode cX10_tear 30 = .ok (.iconst 1, 1) := by decide +kernel
theorem dX10_tear_31 : decode cX10_tear 31 = .ok (.ireturn, 1) := by decide +kernel
theorem dX10_write_0 : decode cX10_write 0 = .ok (.aload_n 0, 1) := by decide +kernel
theorem dX10_write_1 : decode cX10_write 1 = .ok (.iconst 0, 1) := by decide +kernel
theorem dX10_write_2 : decode cX10_write 2 = .ok (.putfield 121, 3) := by decide +kernel
theorem dX10_write_5 : decode cX10_write 5 = .ok (.iload_n 1, 1) := by decide +kernel
theorem dX10_write_6 : decode cX10_write 6 = .ok (.invokestatic 128, 3) := by decide +kernel
theorem dX10_write_9 : decode cX10_write 9 = .ok (.ifCond .ne 6, 3) := by decide +kernel
theorem dX10_write_12 : decode cX10_write 12 = .ok (.bipush (-2), 2) := by decide +kernel
theorem dX10_write_14 : decode cX10_write 14 = .ok (.ireturn, 1) := by decide +kernel
theorem dX10_write_15 : decode cX10_write 15 = .ok (.aload_n 0, 1) := by decide +kernel
theorem dX10_write_16 : decode cX10_write 16 = .ok (.getfield 9, 3) := by decide +kernel
theorem dX10_write_19 : decode cX10_write 19 = .ok (.iload_n 1, 1) := by decide +kernel
theorem dX10_write_20 : decode cX10_write 20 = .ok (.iaload, 1) := by decide +kernel
theorem dX10_write_21 : decode cX10_write 21 = .ok (.ifCond .ge 6, 3) := by decide +kernel
theorem dX10_write_24 : decode cX10_write 24 = .ok (.bipush (-5), 2) := by decide +kernel
theorem dX10_write_26 : decode cX10_write 26 = .ok (.ireturn, 1) := by decide +kernel
theorem dX10_write_27 : decode cX10_write 27 = .ok (.iload_n 2, 1) := by decide +kernel
theorem dX10_write_28 : decode cX10_write 28 = .ok (.iconst 0, 1) := by decide +kernel
theorem dX10_write_29 : decode cX10_write 29 = .ok (.aload_n 0, 1) := by decide +kernel
theorem dX10_write_30 : decode cX10_write 30 = .ok (.getfield 13, 3) := by decide +kernel
theorem dX10_write_33 : decode cX10_write 33 = .ok (.iload_n 1, 1) := by decide +kernel
theorem dX10_write_34 : decode cX10_write 34 = .ok (.iaload, 1) := by decide +kernel
theorem dX10_write_35 : decode cX10_write 35 = .ok (.iconst 1, 1) := by decide +kernel
theorem dX10_write_36 : decode cX10_write 36 = .ok (.isub, 1) := by decide +kernel
theorem dX10_write_37 : decode cX10_write 37 = .ok (.invokestatic 124, 3) := by decide +kernel
theorem dX10_write_40 : decode cX10_write 40 = .ok (.ifCond .ne 6, 3) := by decide +kernel
theorem dX10_write_43 : decode cX10_write 43 = .ok (.bipush (-6), 2) := by decide +kernel
theorem dX10_write_45 : decode cX10_write 45 = .ok (.ireturn, 1) := by decide +kernel
theorem dX10_write_46 : decode cX10_write 46 = .ok (.aload_n 0, 1) := by decide +kernel
theorem dX10_write_47 : decode cX10_write 47 = .ok (.getfield 16, 3) := by decide +kernel
theorem dX10_write_50 : decode cX10_write 50 = .ok (.bipush 60, 2) := by decide +kernel
theorem dX10_write_52 : decode cX10_write 52 = .ok (.iload_n 1, 1) := by decide +kernel
theorem dX10_write_53 : decode cX10_write 53 = .ok (.imul, 1) := by decide +kernel
theorem dX10_write_54 : decode cX10_write 54 = .ok (.iload_n 2, 1) := by decide +kernel
theorem dX10_write_55 : decode cX10_write 55 = .ok (.iadd, 1) := by decide +kernel
theorem dX10_write_56 : decode cX10_write 56 = .ok (.aload_n 0, 1) := by decide +kernel
theorem dX10_write_57 : decode cX10_write 57 = .ok (.getfield 9, 3) := by decide +kernel
theorem dX10_write_60 : decode cX10_write 60 = .ok (.iload_n 1, 1) := by decide +kernel
theorem dX10_write_61 : decode cX10_write 61 = .ok (.iaload, 1) := by decide +kernel
theorem dX10_write_62 : decode cX10_write 62 = .ok (.lload_n 3, 1) := by decide +kernel
theorem dX10_write_63 : decode cX10_write 63 = .ok (.invokestatic 132, 3) := by decide +kernel
theorem dX10_write_66 : decode cX10_write 66 = .ok (.lastore, 1) := by decide +kernel
theorem dX10_write_67 : decode cX10_write 67 = .ok (.iconst 0, 1) := by decide +kernel
theorem dX10_write_68 : decode cX10_write 68 = .ok (.ireturn, 1) := by decide +kernel
theorem dX10_paste_0 : decode cX10_paste 0 = .ok (.aload_n 0, 1) := by decide +kernel
theorem dX10_paste_1 : decode cX10_paste 1 = .ok (.iconst 0, 1) := by decide +kernel
theorem dX10_paste_2 : decode cX10_paste 2 = .ok (.putfield 121, 3) := by decide +kernel
theorem dX10_paste_5 : decode cX10_paste 5 = .ok (.iload_n 1, 1) := by decide +kernel
theorem dX10_paste_6 : decode cX10_paste 6 = .ok (.invokestatic 128, 3) := by decide +kernel
theorem dX10_paste_9 : decode cX10_paste 9 = .ok (.ifCond .eq 10, 3) := by decide +kernel
theorem dX10_paste_12 : decode cX10_paste 12 = .ok (.iload_n 3, 1) := by decide +kernel
theorem dX10_paste_13 : decode cX10_paste 13 = .ok (.invokestatic 128, 3) := by decide +kernel
theorem dX10_paste_16 : decode cX10_paste 16 = .ok (.ifCond .ne 6, 3) := by decide +kernel
theorem dX10_paste_19 : decode cX10_paste 19 = .ok (.bipush (-2), 2) := by decide +kernel
theorem dX10_paste_21 : decode cX10_paste 21 = .ok (.ireturn, 1) := by decide +kernel
theorem dX10_paste_22 : decode cX10_paste 22 = .ok (.aload_n 0, 1) := by decide +kernel
theorem dX10_paste_23 : decode cX10_paste 23 = .ok (.getfield 9, 3) := by decide +kernel
theorem dX10_paste_26 : decode cX10_paste 26 = .ok (.iload_n 1, 1) := by decide +kernel
theorem dX10_paste_27 : decode cX10_paste 27 = .ok (.iaload, 1) := by decide +kernel
theorem dX10_paste_28 : decode cX10_paste 28 = .ok (.ifCond .lt 12, 3) := by decide +kernel
theorem dX10_paste_31 : decode cX10_paste 31 = .ok (.aload_n 0, 1) := by decide +kernel
theorem dX10_paste_32 : decode cX10_paste 32 = .ok (.getfield 9, 3) := by decide +kernel
theorem dX10_paste_35 : decode cX10_paste 35 = .ok (.iload_n 3, 1) := by decide +kernel
theorem dX10_paste_36 : decode cX10_paste 36 = .ok (.iaload, 1) := by decide +kernel
theorem dX10_paste_37 : decode cX10_paste 37 = .ok (.ifCond .ge 6, 3) := by decide +kernel
theorem dX10_paste_40 : decode cX10_paste 40 = .ok (.bipush (-5), 2) := by decide +kernel
theorem dX10_paste_42 : decode cX10_paste 42 = .ok (.ireturn, 1) := by decide +kernel
theorem dX10_paste_43 : decode cX10_paste 43 = .ok (.aload_n 0, 1) := by decide +kernel
theorem dX10_paste_44 : decode cX10_paste 44 = .ok (.getfield 9, 3) := by decide +kernel
theorem dX10_paste_47 : decode cX10_paste 47 = .ok (.iload_n 1, 1) := by decide +kernel
theorem dX10_paste_48 : decode cX10_paste 48 = .ok (.iaload, 1) := by decide +kernel
theorem dX10_paste_49 : decode cX10_paste 49 = .ok (.aload_n 0, 1) := by decide +kernel
theorem dX10_paste_50 : decode cX10_paste 50 = .ok (.getfield 9, 3) := by decide +kernel
theorem dX10_paste_53 : decode cX10_paste 53 = .ok (.iload_n 3, 1) := by decide +kernel
theorem dX10_paste_54 : decode cX10_paste 54 = .ok (.iaload, 1) := by decide +kernel
theorem dX10_paste_55 : decode cX10_paste 55 = .ok (.if_icmp .eq 6, 3) := by decide +kernel
theorem dX10_paste_58 : decode cX10_paste 58 = .ok (.bipush (-7), 2) := by decide +kernel
theorem dX10_paste_60 : decode cX10_paste 60 = .ok (.ireturn, 1) := by decide +kernel
theorem dX10_paste_61 : decode cX10_paste 61 = .ok (.iload_n 2, 1) := by decide +kernel
theorem dX10_paste_62 : decode cX10_paste 62 = .ok (.ifCond .lt 48, 3) := by decide +kernel
theorem dX10_paste_65 : decode cX10_paste 65 = .ok (.iload 4, 2) := by decide +kernel
theorem dX10_paste_67 : decode cX10_paste 67 = .ok (.ifCond .lt 43, 3) := by decide +kernel
theorem dX10_paste_70 : decode cX10_paste 70 = .ok (.iload 5, 2) := by decide +kernel
theorem dX10_paste_72 : decode cX10_paste 72 = .ok (.ifCond .lt 38, 3) := by decide +kernel
theorem dX10_paste_75 : decode cX10_paste 75 = .ok (.iload_n 2, 1) := by decide +kernel
theorem dX10_paste_76 : decode cX10_paste 76 = .ok (.i2l, 1) := by decide +kernel
theorem dX10_paste_77 : decode cX10_paste 77 = .ok (.iload 5, 2) := by decide +kernel
theorem dX10_paste_79 : decode cX10_paste 79 = .ok (.i2l, 1) := by decide +kernel
theorem dX10_paste_80 : decode cX10_paste 80 = .ok (.ladd, 1) := by decide +kernel
theorem dX10_paste_81 : decode cX10_paste 81 = .ok (.aload_n 0, 1) := by decide +kernel
theorem dX10_paste_82 : decode cX10_paste 82 = .ok (.getfield 13, 3) := by decide +kernel
theorem dX10_paste_85 : decode cX10_paste 85 = .ok (.iload_n 1, 1) := by decide +kernel
theorem dX10_paste_86 : decode cX10_paste 86 = .ok (.iaload, 1) := by decide +kernel
theorem dX10_paste_87 : decode cX10_paste 87 = .ok (.i2l, 1) := by decide +kernel
theorem dX10_paste_88 : decode cX10_paste 88 = .ok (.lcmp, 1) := by decide +kernel
theorem dX10_paste_89 : decode cX10_paste 89 = .ok (.ifCond .gt 21, 3) := by decide +kernel
theorem dX10_paste_92 : decode cX10_paste 92 = .ok (.iload 4, 2) := by decide +kernel
theorem dX10_paste_94 : decode cX10_paste 94 = .ok (.i2l, 1) := by decide +kernel
theorem dX10_paste_95 : decode cX10_paste 95 = .ok (.iload 5, 2) := by decide +kernel
theorem dX10_paste_97 : decode cX10_paste 97 = .ok (.i2l, 1) := by decide +kernel
theorem dX10_paste_98 : decode cX10_paste 98 = .ok (.ladd, 1) := by decide +kernel
theorem dX10_paste_99 : decode cX10_paste 99 = .ok (.aload_n 0, 1) := by decide +kernel
theorem dX10_paste_100 : decode cX10_paste 100 = .ok (.getfield 13, 3) := by decide +kernel
theorem dX10_paste_103 : decode cX10_paste 103 = .ok (.iload_n 3, 1) := by decide +kernel
theorem dX10_paste_104 : decode cX10_paste 104 = .ok (.iaload, 1) := by decide +kernel
theorem dX10_paste_105 : decode cX10_paste 105 = .ok (.i2l, 1) := by decide +kernel
theorem dX10_paste_106 : decode cX10_paste 106 = .ok (.lcmp, 1) := by decide +kernel
theorem dX10_paste_107 : decode cX10_paste 107 = .ok (.ifCond .le 6, 3) := by decide +kernel
theorem dX10_paste_110 : decode cX10_paste 110 = .ok (.bipush (-6), 2) := by decide +kernel
theorem dX10_paste_112 : decode cX10_paste 112 = .ok (.ireturn, 1) := by decide +kernel
theorem dX10_paste_113 : decode cX10_paste 113 = .ok (.iconst 0, 1) := by decide +kernel
theorem dX10_paste_114 : decode cX10_paste 114 = .ok (.istore 6, 2) := by decide +kernel
theorem dX10_paste_116 : decode cX10_paste 116 = .ok (.iload 6, 2) := by decide +kernel
theorem dX10_paste_118 : decode cX10_paste 118 = .ok (.iload 5, 2) := by decide +kernel
theorem dX10_paste_120 : decode cX10_paste 120 = .ok (.if_icmp .ge 30, 3) := by decide +kernel
theorem dX10_paste_123 : decode cX10_paste 123 = .ok (.aload_n 0, 1) := by decide +kernel
theorem dX10_paste_124 : decode cX10_paste 124 = .ok (.getfield 20, 3) := by decide +kernel
theorem dX10_paste_127 : decode cX10_paste 127 = .ok (.iload 6, 2) := by decide +kernel
theorem dX10_paste_129 : decode cX10_paste 129 = .ok (.aload_n 0, 1) := by decide +kernel
theorem dX10_paste_130 : decode cX10_paste 130 = .ok (.getfield 16, 3) := by decide +kernel
theorem dX10_paste_133 : decode cX10_paste 133 = .ok (.bipush 60, 2) := by decide +kernel
theorem dX10_paste_135 : decode cX10_paste 135 = .ok (.iload_n 1, 1) := by decide +kernel
theorem dX10_paste_136 : decode cX10_paste 136 = .ok (.imul, 1) := by decide +kernel
theorem dX10_paste_137 : decode cX10_paste 137 = .ok (.iload_n 2, 1) := by decide +kernel
theorem dX10_paste_138 : decode cX10_paste 138 = .ok (.iadd, 1) := by decide +kernel
theorem dX10_paste_139 : decode cX10_paste 139 = .ok (.iload 6, 2) := by decide +kernel
theorem dX10_paste_141 : decode cX10_paste 141 = .ok (.iadd, 1) := by decide +kernel
theorem dX10_paste_142 : decode cX10_paste 142 = .ok (.laload, 1) := by decide +kernel
theorem dX10_paste_143 : decode cX10_paste 143 = .ok (.lastore, 1) := by decide +kernel
theorem dX10_paste_144 : decode cX10_paste 144 = .ok (.iinc 6 1, 3) := by decide +kernel
theorem dX10_paste_147 : decode cX10_paste 147 = .ok (.goto (-31), 3) := by decide +kernel
theorem dX10_paste_150 : decode cX10_paste 150 = .ok (.iconst 0, 1) := by decide +kernel
theorem dX10_paste_151 : decode cX10_paste 151 = .ok (.istore 6, 2) := by decide +kernel
theorem dX10_paste_153 : decode cX10_paste 153 = .ok (.iload 6, 2) := by decide +kernel
theorem dX10_paste_155 : decode cX10_paste 155 = .ok (.iload 5, 2) := by decide +kernel
theorem dX10_paste_157 : decode cX10_paste 157 = .ok (.if_icmp .ge 31, 3) := by decide +kernel
theorem dX10_paste_160 : decode cX10_paste 160 = .ok (.aload_n 0, 1) := by decide +kernel
theorem dX10_paste_161 : decode cX10_paste 161 = .ok (.getfield 16, 3) := by decide +kernel
theorem dX10_paste_164 : decode cX10_paste 164 = .ok (.bipush 60, 2) := by decide +kernel
theorem dX10_paste_166 : decode cX10_paste 166 = .ok (.iload_n 3, 1) := by decide +kernel
theorem dX10_paste_167 : decode cX10_paste 167 = .ok (.imul, 1) := by decide +kernel
theorem dX10_paste_168 : decode cX10_paste 168 = .ok (.iload 4, 2) := by decide +kernel
theorem dX10_paste_170 : decode cX10_paste 170 = .ok (.iadd, 1) := by decide +kernel
theorem dX10_paste_171 : decode cX10_paste 171 = .ok (.iload 6, 2) := by decide +kernel
theorem dX10_paste_173 : decode cX10_paste 173 = .ok (.iadd, 1) := by decide +kernel
theorem dX10_paste_174 : decode cX10_paste 174 = .ok (.aload_n 0, 1) := by decide +kernel
theorem dX10_paste_175 : decode cX10_paste 175 = .ok (.getfield 20, 3) := by decide +kernel
theorem dX10_paste_178 : decode cX10_paste 178 = .ok (.iload 6, 2) := by decide +kernel
theorem dX10_paste_180 : decode cX10_paste 180 = .ok (.laload, 1) := by decide +kernel
theorem dX10_paste_181 : decode cX10_paste 181 = .ok (.lastore, 1) := by decide +kernel
theorem dX10_paste_182 : decode cX10_paste 182 = .ok (.iinc 6 1, 3) := by decide +kernel
theorem dX10_paste_185 : decode cX10_paste 185 = .ok (.goto (-32), 3) := by decide +kernel
theorem dX10_paste_188 : decode cX10_paste 188 = .ok (.iconst 0, 1) := by decide +kernel
theorem dX10_paste_189 : decode cX10_paste 189 = .ok (.ireturn, 1) := by decide +kernel
theorem dX10_terms_0 : decode cX10_terms 0 = .ok (.aload_n 0, 1) := by decide +kernel
theorem dX10_terms_1 : decode cX10_terms 1 = .ok (.iconst 0, 1) := by decide +kernel
theorem dX10_terms_2 : decode cX10_terms 2 = .ok (.putfield 121, 3) := by decide +kernel
theorem dX10_terms_5 : decode cX10_terms 5 = .ok (.aload_n 0, 1) := by decide +kernel
theorem dX10_terms_6 : decode cX10_terms 6 = .ok (.getfield 136, 3) := by decide +kernel
theorem dX10_terms_9 : decode cX10_terms 9 = .ok (.ifCond .eq 6, 3) := by decide +kernel
theorem dX10_terms_12 : decode cX10_terms 12 = .ok (.bipush (-9), 2) := by decide +kernel
theorem dX10_terms_14 : decode cX10_terms 14 = .ok (.ireturn, 1) := by decide +kernel
theorem dX10_terms_15 : decode cX10_terms 15 = .ok (.iload_n 1, 1) := by decide +kernel
theorem dX10_terms_16 : decode cX10_terms 16 = .ok (.iconst 1, 1) := by decide +kernel
theorem dX10_terms_17 : decode cX10_terms 17 = .ok (.bipush 64, 2) := by decide +kernel
theorem dX10_terms_19 : decode cX10_terms 19 = .ok (.invokestatic 124, 3) := by decide +kernel
theorem dX10_terms_22 : decode cX10_terms 22 = .ok (.ifCond .eq 66, 3) := by decide +kernel
theorem dX10_terms_25 : decode cX10_terms 25 = .ok (.iload_n 2, 1) := by decide +kernel
theorem dX10_terms_26 : decode cX10_terms 26 = .ok (.iload_n 1, 1) := by decide +kernel
theorem dX10_terms_27 : decode cX10_terms 27 = .ok (.sipush 4096, 3) := by decide +kernel
theorem dX10_terms_30 : decode cX10_terms 30 = .ok (.invokestatic 124, 3) := by decide +kernel
theorem dX10_terms_33 : decode cX10_terms 33 = .ok (.ifCond .eq 55, 3) := by decide +kernel
theorem dX10_terms_36 : decode cX10_terms 36 = .ok (.iload_n 2, 1) := by decide +kernel
theorem dX10_terms_37 : decode cX10_terms 37 = .ok (.iload_n 1, 1) := by decide +kernel
theorem dX10_terms_38 : decode cX10_terms 38 = .ok (.irem, 1) := by decide +kernel
theorem dX10_terms_39 : decode cX10_terms 39 = .ok (.ifCond .ne 49, 3) := by decide +kernel
theorem dX10_terms_42 : decode cX10_terms 42 = .ok (.iload_n 2, 1) := by decide +kernel
theorem dX10_terms_43 : decode cX10_terms 43 = .ok (.iload_n 1, 1) := by decide +kernel
theorem dX10_terms_44 : decode cX10_terms 44 = .ok (.idiv, 1) := by decide +kernel
theorem dX10_terms_45 : decode cX10_terms 45 = .ok (.bipush 64, 2) := by decide +kernel
theorem dX10_terms_47 : decode cX10_terms 47 = .ok (.if_icmp .gt 41, 3) := by decide +kernel
theorem dX10_terms_50 : decode cX10_terms 50 = .ok (.iload_n 3, 1) := by decide +kernel
theorem dX10_terms_51 : decode cX10_terms 51 = .ok (.iconst 0, 1) := by decide +kernel
theorem dX10_terms_52 : decode cX10_terms 52 = .ok (.iload_n 2, 1) := by decide +kernel
theorem dX10_terms_53 : decode cX10_terms 53 = .ok (.invokestatic 124, 3) := by decide +kernel
theorem dX10_terms_56 : decode cX10_terms 56 = .ok (.ifCond .eq 32, 3) := by decide +kernel
theorem dX10_terms_59 : decode cX10_terms 59 = .ok (.iload_n 3, 1) := by decide +kernel
theorem dX10_terms_60 : decode cX10_terms 60 = .ok (.iload_n 1, 1) := by decide +kernel
theorem dX10_terms_61 : decode cX10_terms 61 = .ok (.irem, 1) := by decide +kernel
theorem dX10_terms_62 : decode cX10_terms 62 = .ok (.ifCond .ne 26, 3) := by decide +kernel
theorem dX10_terms_65 : decode cX10_terms 65 = .ok (.iload 4, 2) := by decide +kernel
theorem dX10_terms_67 : decode cX10_terms 67 = .ok (.iconst 1, 1) := by decide +kernel
theorem dX10_terms_68 : decode cX10_terms 68 = .ok (.sipush 1000, 3) := by decide +kernel
theorem dX10_terms_71 : decode cX10_terms 71 = .ok (.invokestatic 124, 3) := by decide +kernel
theorem dX10_terms_74 : decode cX10_terms 74 = .ok (.ifCond .eq 14, 3) := by decide +kernel
theorem dX10_terms_77 : decode cX10_terms 77 = .ok (.iload 5, 2) := by decide +kernel
theorem dX10_terms_79 : decode cX10_terms 79 = .ok (.iconst 0, 1) := by decide +kernel
theorem dX10_terms_80 : decode cX10_terms 80 = .ok (.bipush 9, 2) := by decide +kernel
theorem dX10_terms_82 : decode cX10_terms 82 = .ok (.invokestatic 124, 3) := by decide +kernel
theorem dX10_terms_85 : decode cX10_terms 85 = .ok (.ifCond .ne 6, 3) := by decide +kernel
theorem dX10_terms_88 : decode cX10_terms 88 = .ok (.bipush (-2), 2) := by decide +kernel
theorem dX10_terms_90 : decode cX10_terms 90 = .ok (.ireturn, 1) := by decide +kernel
theorem dX10_terms_91 : decode cX10_terms 91 = .ok (.aload_n 0, 1) := by decide +kernel
theorem dX10_terms_92 : decode cX10_terms 92 = .ok (.iload_n 1, 1) := by decide +kernel
theorem dX10_terms_93 : decode cX10_terms 93 = .ok (.putfield 23, 3) := by decide +kernel
theorem dX10_terms_96 : decode cX10_terms 96 = .ok (.aload_n 0, 1) := by decide +kernel
theorem dX10_terms_97 : decode cX10_terms 97 = .ok (.iload_n 2, 1) := by decide +kernel
theorem dX10_terms_98 : decode cX10_terms 98 = .ok (.putfield 27, 3) := by decide +kernel
theorem dX10_terms_101 : decode cX10_terms 101 = .ok (.aload_n 0, 1) := by decide +kernel
theorem dX10_terms_102 : decode cX10_terms 102 = .ok (.iload_n 3, 1) := by decide +kernel
theorem dX10_terms_103 : decode cX10_terms 103 = .ok (.putfield 140, 3) := by decide +kernel
theorem dX10_terms_106 : decode cX10_terms 106 = .ok (.aload_n 0, 1) := by decide +kernel
theorem dX10_terms_107 : decode cX10_terms 107 = .ok (.iload 4, 2) := by decide +kernel
theorem dX10_terms_109 : decode cX10_terms 109 = .ok (.putfield 30, 3) := by decide +kernel
theorem dX10_terms_112 : decode cX10_terms 112 = .ok (.aload_n 0, 1) := by decide +kernel
theorem dX10_terms_113 : decode cX10_terms 113 = .ok (.iload 5, 2) := by decide +kernel
theorem dX10_terms_115 : decode cX10_terms 115 = .ok (.putfield 33, 3) := by decide +kernel
theorem dX10_terms_118 : decode cX10_terms 118 = .ok (.aload_n 0, 1) := by decide +kernel
theorem dX10_terms_119 : decode cX10_terms 119 = .ok (.iconst 0, 1) := by decide +kernel
theorem dX10_terms_120 : decode cX10_terms 120 = .ok (.putfield 143, 3) := by decide +kernel
theorem dX10_terms_123 : decode cX10_terms 123 = .ok (.iconst 0, 1) := by decide +kernel
theorem dX10_terms_124 : decode cX10_terms 124 = .ok (.ireturn, 1) := by decide +kernel
theorem dX10_program_0 : decode cX10_program 0 = .ok (.aload_n 0, 1) := by decide +kernel
theorem dX10_program_1 : decode cX10_program 1 = .ok (.iconst 0, 1) := by decide +kernel
theorem dX10_program_2 : decode cX10_program 2 = .ok (.putfield 121, 3) := by decide +kernel
theorem dX10_program_5 : decode cX10_program 5 = .ok (.aload_n 0, 1) := by decide +kernel
theorem dX10_program_6 : decode cX10_program 6 = .ok (.getfield 136, 3) := by decide +kernel
theorem dX10_program_9 : decode cX10_program 9 = .ok (.ifCond .eq 6, 3) := by decide +kernel
theorem dX10_program_12 : decode cX10_program 12 = .ok (.bipush (-9), 2) := by decide +kernel
theorem dX10_program_14 : decode cX10_program 14 = .ok (.ireturn, 1) := by decide +kernel
theorem dX10_program_15 : decode cX10_program 15 = .ok (.iload_n 1, 1) := by decide +kernel
theorem dX10_program_16 : decode cX10_program 16 = .ok (.invokestatic 128, 3) := by decide +kernel
theorem dX10_program_19 : decode cX10_program 19 = .ok (.ifCond .eq 34, 3) := by decide +kernel
theorem dX10_program_22 : decode cX10_program 22 = .ok (.iload_n 2, 1) := by decide +kernel
theorem dX10_program_23 : decode cX10_program 23 = .ok (.iconst 0, 1) := by decide +kernel
theorem dX10_program_24 : decode cX10_program 24 = .ok (.iconst 1, 1) := by decide +kernel
theorem dX10_program_25 : decode cX10_program 25 = .ok (.invokestatic 124, 3) := by decide +kernel
theorem dX10_program_28 : decode cX10_program 28 = .ok (.ifCond .eq 25, 3) := by decide +kernel
theorem dX10_program_31 : decode cX10_program 31 = .ok (.iload_n 3, 1) := by decide +kernel
theorem dX10_program_32 : decode cX10_program 32 = .ok (.iconst 1, 1) := by decide +kernel
theorem dX10_program_33 : decode cX10_program 33 = .ok (.bipush 40, 2) := by decide +kernel
theorem dX10_program_35 : decode cX10_program 35 = .ok (.invokestatic 124, 3) := by decide +kernel
theorem dX10_program_38 : decode cX10_program 38 = .ok (.ifCond .eq 15, 3) := by decide +kernel
theorem dX10_program_41 : decode cX10_program 41 = .ok (.iload 4, 2) := by decide +kernel
theorem dX10_program_43 : decode cX10_program 43 = .ok (.iconst 0, 1) := by decide +kernel
theorem dX10_program_44 : decode cX10_program 44 = .ok (.sipush 1000, 3) := by decide +kernel
theorem dX10_program_47 : decode cX10_program 47 = .ok (.invokestatic 124, 3) := by decide +kernel
theorem dX10_program_50 : decode cX10_program 50 = .ok (.ifCond .ne 6, 3) := by decide +kernel
theorem dX10_program_53 : decode cX10_program 53 = .ok (.bipush (-2), 2) := by decide +kernel
theorem dX10_program_55 : decode cX10_program 55 = .ok (.ireturn, 1) := by decide +kernel
theorem dX10_program_56 : decode cX10_program 56 = .ok (.aload_n 0, 1) := by decide +kernel
theorem dX10_program_57 : decode cX10_program 57 = .ok (.getfield 146, 3) := by decide +kernel
theorem dX10_program_60 : decode cX10_program 60 = .ok (.bipush 6, 2) := by decide +kernel
theorem dX10_program_62 : decode cX10_program 62 = .ok (.if_icmp .ne 6, 3) := by decide +kernel
theorem dX10_program_65 : decode cX10_program 65 = .ok (.bipush (-3), 2) := by decide +kernel
theorem dX10_program_67 : decode cX10_program 67 = .ok (.ireturn, 1) := by decide +kernel
theorem dX10_program_68 : decode cX10_program 68 = .ok (.aload_n 0, 1) := by decide +kernel
theorem dX10_program_69 : decode cX10_program 69 = .ok (.getfield 9, 3) := by decide +kernel
theorem dX10_program_72 : decode cX10_program 72 = .ok (.iload_n 1, 1) := by decide +kernel
theorem dX10_program_73 : decode cX10_program 73 = .ok (.iaload, 1) := by decide +kernel
theorem dX10_program_74 : decode cX10_program 74 = .ok (.ifCond .ge 6, 3) := by decide +kernel
theorem dX10_program_77 : decode cX10_program 77 = .ok (.bipush (-5), 2) := by decide +kernel
theorem dX10_program_79 : decode cX10_program 79 = .ok (.ireturn, 1) := by decide +kernel
theorem dX10_program_80 : decode cX10_program 80 = .ok (.aload_n 0, 1) := by decide +kernel
theorem dX10_program_81 : decode cX10_program 81 = .ok (.getfield 13, 3) := by decide +kernel
theorem dX10_program_84 : decode cX10_program 84 = .ok (.iload_n 1, 1) := by decide +kernel
theorem dX10_program_85 : decode cX10_program 85 = .ok (.iaload, 1) := by decide +kernel
theorem dX10_program_86 : decode cX10_program 86 = .ok (.ifCond .ne 6, 3) := by decide +kernel
theorem dX10_program_89 : decode cX10_program 89 = .ok (.bipush (-8), 2) := by decide +kernel
theorem dX10_program_91 : decode cX10_program 91 = .ok (.ireturn, 1) := by decide +kernel
theorem dX10_program_92 : decode cX10_program 92 = .ok (.iconst 0, 1) := by decide +kernel
theorem dX10_program_93 : decode cX10_program 93 = .ok (.istore 5, 2) := by decide +kernel
theorem dX10_program_95 : decode cX10_program 95 = .ok (.iload 5, 2) := by decide +kernel
theorem dX10_program_97 : decode cX10_program 97 = .ok (.aload_n 0, 1) := by decide +kernel
theorem dX10_program_98 : decode cX10_program 98 = .ok (.getfield 13, 3) := by decide +kernel
theorem dX10_program_101 : decode cX10_program 101 = .ok (.iload_n 1, 1) := by decide +kernel
theorem dX10_program_102 : decode cX10_program 102 = .ok (.iaload, 1) := by decide +kernel
theorem dX10_program_103 : decode cX10_program 103 = .ok (.if_icmp .ge 62, 3) := by decide +kernel
theorem dX10_program_106 : decode cX10_program 106 = .ok (.aload_n 0, 1) := by decide +kernel
theorem dX10_program_107 : decode cX10_program 107 = .ok (.getfield 16, 3) := by decide +kernel
theorem dX10_program_110 : decode cX10_program 110 = .ok (.bipush 60, 2) := by decide +kernel
theorem dX10_program_112 : decode cX10_program 112 = .ok (.iload_n 1, 1) := by decide +kernel
theorem dX10_program_113 : decode cX10_program 113 = .ok (.imul, 1) := by decide +kernel
theorem dX10_program_114 : decode cX10_program 114 = .ok (.iload 5, 2) := by decide +kernel
theorem dX10_program_116 : decode cX10_program 116 = .ok (.iadd, 1) := by decide +kernel
theorem dX10_program_117 : decode cX10_program 117 = .ok (.laload, 1) := by decide +kernel
theorem dX10_program_118 : decode cX10_program 118 = .ok (.lstore 6, 2) := by decide +kernel
theorem dX10_program_120 : decode cX10_program 120 = .ok (.lload 6, 2) := by decide +kernel
theorem dX10_program_122 : decode cX10_program 122 = .ok (.ldc2_w 149, 3) := by decide +kernel
theorem dX10_program_125 : decode cX10_program 125 = .ok (.lcmp, 1) := by decide +kernel
theorem dX10_program_126 : decode cX10_program 126 = .ok (.ifCond .lt 30, 3) := by decide +kernel
theorem dX10_program_129 : decode cX10_program 129 = .ok (.lload 6, 2) := by decide +kernel
theorem dX10_program_131 : decode cX10_program 131 = .ok (.ldc2_w 151, 3) := by decide +kernel
theorem dX10_program_134 : decode cX10_program 134 = .ok (.lcmp, 1) := by decide +kernel
theorem dX10_program_135 : decode cX10_program 135 = .ok (.ifCond .le 12, 3) := by decide +kernel
theorem dX10_program_138 : decode cX10_program 138 = .ok (.lload 6, 2) := by decide +kernel
theorem dX10_program_140 : decode cX10_program 140 = .ok (.ldc2_w 153, 3) := by decide +kernel
theorem dX10_program_143 : decode cX10_program 143 = .ok (.lcmp, 1) := by decide +kernel
theorem dX10_program_144 : decode cX10_program 144 = .ok (.ifCond .lt 12, 3) := by decide +kernel
theorem dX10_program_147 : decode cX10_program 147 = .ok (.lload 6, 2) := by decide +kernel
theorem dX10_program_149 : decode cX10_program 149 = .ok (.ldc2_w 155, 3) := by decide +kernel
theorem dX10_program_152 : decode cX10_program 152 = .ok (.lcmp, 1) := by decide +kernel
theorem dX10_program_153 : decode cX10_program 153 = .ok (.ifCond .le 6, 3) := by decide +kernel
theorem dX10_program_156 : decode cX10_program 156 = .ok (.bipush (-4), 2) := by decide +kernel
theorem dX10_program_158 : decode cX10_program 158 = .ok (.ireturn, 1) := by decide +kernel
theorem dX10_program_159 : decode cX10_program 159 = .ok (.iinc 5 1, 3) := by decide +kernel
theorem dX10_program_162 : decode cX10_program 162 = .ok (.goto (-67), 3) := by decide +kernel
theorem dX10_program_165 : decode cX10_program 165 = .ok (.iconst 0, 1) := by decide +kernel
theorem dX10_program_166 : decode cX10_program 166 = .ok (.istore 5, 2) := by decide +kernel
theorem dX10_program_168 : decode cX10_program 168 = .ok (.iload 5, 2) := by decide +kernel
theorem dX10_program_170 : decode cX10_program 170 = .ok (.aload_n 0, 1) := by decide +kernel
theorem dX10_program_171 : decode cX10_program 171 = .ok (.getfield 13, 3) := by decide +kernel
theorem dX10_program_174 : decode cX10_program 174 = .ok (.iload_n 1, 1) := by decide +kernel
theorem dX10_program_175 : decode cX10_program 175 = .ok (.iaload, 1) := by decide +kernel
theorem dX10_program_176 : decode cX10_program 176 = .ok (.if_icmp .ge 37, 3) := by decide +kernel
theorem dX10_program_179 : decode cX10_program 179 = .ok (.aload_n 0, 1) := by decide +kernel
theorem dX10_program_180 : decode cX10_program 180 = .ok (.getfield 39, 3) := by decide +kernel
theorem dX10_program_183 : decode cX10_program 183 = .ok (.bipush 60, 2) := by decide +kernel
theorem dX10_program_185 : decode cX10_program 185 = .ok (.aload_n 0, 1) := by decide +kernel
theorem dX10_program_186 : decode cX10_program 186 = .ok (.getfield 146, 3) := by decide +kernel
theorem dX10_program_189 : decode cX10_program 189 = .ok (.imul, 1) := by decide +kernel
theorem dX10_program_190 : decode cX10_program 190 = .ok (.iload 5, 2) := by decide +kernel
theorem dX10_program_192 : decode cX10_program 192 = .ok (.iadd, 1) := by decide +kernel
theorem dX10_program_193 : decode cX10_program 193 = .ok (.aload_n 0, 1) := by decide +kernel
theorem dX10_program_194 : decode cX10_program 194 = .ok (.getfield 16, 3) := by decide +kernel
theorem dX10_program_197 : decode cX10_program 197 = .ok (.bipush 60, 2) := by decide +kernel
theorem dX10_program_199 : decode cX10_program 199 = .ok (.iload_n 1, 1) := by decide +kernel
theorem dX10_program_200 : decode cX10_program 200 = .ok (.imul, 1) := by decide +kernel
theorem dX10_program_201 : decode cX10_program 201 = .ok (.iload 5, 2) := by decide +kernel
theorem dX10_program_203 : decode cX10_program 203 = .ok (.iadd, 1) := by decide +kernel
theorem dX10_program_204 : decode cX10_program 204 = .ok (.laload, 1) := by decide +kernel
theorem dX10_program_205 : decode cX10_program 205 = .ok (.l2i, 1) := by decide +kernel
theorem dX10_program_206 : decode cX10_program 206 = .ok (.iastore, 1) := by decide +kernel
theorem dX10_program_207 : decode cX10_program 207 = .ok (.iinc 5 1, 3) := by decide +kernel
theorem dX10_program_210 : decode cX10_program 210 = .ok (.goto (-42), 3) := by decide +kernel
theorem dX10_program_213 : decode cX10_program 213 = .ok (.aload_n 0, 1) := by decide +kernel
theorem dX10_program_214 : decode cX10_program 214 = .ok (.getfield 36, 3) := by decide +kernel
theorem dX10_program_217 : decode cX10_program 217 = .ok (.aload_n 0, 1) := by decide +kernel
theorem dX10_program_218 : decode cX10_program 218 = .ok (.getfield 146, 3) := by decide +kernel
theorem dX10_program_221 : decode cX10_program 221 = .ok (.aload_n 0, 1) := by decide +kernel
theorem dX10_program_222 : decode cX10_program 222 = .ok (.getfield 13, 3) := by decide +kernel
theorem dX10_program_225 : decode cX10_program 225 = .ok (.iload_n 1, 1) := by decide +kernel
theorem dX10_program_226 : decode cX10_program 226 = .ok (.iaload, 1) := by decide +kernel
theorem dX10_program_227 : decode cX10_program 227 = .ok (.iastore, 1) := by decide +kernel
theorem dX10_program_228 : decode cX10_program 228 = .ok (.aload_n 0, 1) := by decide +kernel
theorem dX10_program_229 : decode cX10_program 229 = .ok (.getfield 42, 3) := by decide +kernel
theorem dX10_program_232 : decode cX10_program 232 = .ok (.aload_n 0, 1) := by decide +kernel
theorem dX10_program_233 : decode cX10_program 233 = .ok (.getfield 146, 3) := by decide +kernel
theorem dX10_program_236 : decode cX10_program 236 = .ok (.iload_n 2, 1) := by decide +kernel
theorem dX10_program_237 : decode cX10_program 237 = .ok (.iastore, 1) := by decide +kernel
theorem dX10_program_238 : decode cX10_program 238 = .ok (.aload_n 0, 1) := by decide +kernel
theorem dX10_program_239 : decode cX10_program 239 = .ok (.getfield 45, 3) := by decide +kernel
theorem dX10_program_242 : decode cX10_program 242 = .ok (.aload_n 0, 1) := by decide +kernel
theorem dX10_program_243 : decode cX10_program 243 = .ok (.getfield 146, 3) := by decide +kernel
theorem dX10_program_246 : decode cX10_program 246 = .ok (.iload_n 3, 1) := by decide +kernel
theorem dX10_program_247 : decode cX10_program 247 = .ok (.iastore, 1) := by decide +kernel
theorem dX10_program_248 : decode cX10_program 248 = .ok (.aload_n 0, 1) := by decide +kernel
theorem dX10_program_249 : decode cX10_program 249 = .ok (.getfield 48, 3) := by decide +kernel
theorem dX10_program_252 : decode cX10_program 252 = .ok (.aload_n 0, 1) := by decide +kernel
theorem dX10_program_253 : decode cX10_program 253 = .ok (.getfield 146, 3) := by decide +kernel
theorem dX10_program_256 : decode cX10_program 256 = .ok (.iload 4, 2) := by decide +kernel
theorem dX10_program_258 : decode cX10_program 258 = .ok (.iastore, 1) := by decide +kernel
theorem dX10_program_259 : decode cX10_program 259 = .ok (.aload_n 0, 1) := by decide +kernel
theorem dX10_program_260 : decode cX10_program 260 = .ok (.dup, 1) := by decide +kernel
theorem dX10_program_261 : decode cX10_program 261 = .ok (.getfield 146, 3) := by decide +kernel
theorem dX10_program_264 : decode cX10_program 264 = .ok (.iconst 1, 1) := by decide +kernel
theorem dX10_program_265 : decode cX10_program 265 = .ok (.iadd, 1) := by decide +kernel
theorem dX10_program_266 : decode cX10_program 266 = .ok (.putfield 146, 3) := by decide +kernel
theorem dX10_program_269 : decode cX10_program 269 = .ok (.aload_n 0, 1) := by decide +kernel
theorem dX10_program_270 : decode cX10_program 270 = .ok (.iconst 0, 1) := by decide +kernel
theorem dX10_program_271 : decode cX10_program 271 = .ok (.putfield 143, 3) := by decide +kernel
theorem dX10_program_274 : decode cX10_program 274 = .ok (.aload_n 0, 1) := by decide +kernel
theorem dX10_program_275 : decode cX10_program 275 = .ok (.getfield 146, 3) := by decide +kernel
theorem dX10_program_278 : decode cX10_program 278 = .ok (.iconst 1, 1) := by decide +kernel
theorem dX10_program_279 : decode cX10_program 279 = .ok (.isub, 1) := by decide +kernel
theorem dX10_program_280 : decode cX10_program 280 = .ok (.ireturn, 1) := by decide +kernel
theorem dX10_clear_0 : decode cX10_clear 0 = .ok (.aload_n 0, 1) := by decide +kernel
theorem dX10_clear_1 : decode cX10_clear 1 = .ok (.iconst 0, 1) := by decide +kernel
theorem dX10_clear_2 : decode cX10_clear 2 = .ok (.putfield 121, 3) := by decide +kernel
theorem dX10_clear_5 : decode cX10_clear 5 = .ok (.aload_n 0, 1) := by decide +kernel
theorem dX10_clear_6 : decode cX10_clear 6 = .ok (.getfield 146, 3) := by decide +kernel
theorem dX10_clear_9 : decode cX10_clear 9 = .ok (.istore_n 1, 1) := by decide +kernel
theorem dX10_clear_10 : decode cX10_clear 10 = .ok (.aload_n 0, 1) := by decide +kernel
theorem dX10_clear_11 : decode cX10_clear 11 = .ok (.iconst 0, 1) := by decide +kernel
theorem dX10_clear_12 : decode cX10_clear 12 = .ok (.putfield 146, 3) := by decide +kernel
theorem dX10_clear_15 : decode cX10_clear 15 = .ok (.aload_n 0, 1) := by decide +kernel
theorem dX10_clear_16 : decode cX10_clear 16 = .ok (.iconst 0, 1) := by decide +kernel
theorem dX10_clear_17 : decode cX10_clear 17 = .ok (.putfield 157, 3) := by decide +kernel
theorem dX10_clear_20 : decode cX10_clear 20 = .ok (.aload_n 0, 1) := by decide +kernel
theorem dX10_clear_21 : decode cX10_clear 21 = .ok (.iconst 0, 1) := by decide +kernel
theorem dX10_clear_22 : decode cX10_clear 22 = .ok (.putfield 136, 3) := by decide +kernel
theorem dX10_clear_25 : decode cX10_clear 25 = .ok (.aload_n 0, 1) := by decide +kernel
theorem dX10_clear_26 : decode cX10_clear 26 = .ok (.iconst 0, 1) := by decide +kernel
theorem dX10_clear_27 : decode cX10_clear 27 = .ok (.putfield 143, 3) := by decide +kernel
theorem dX10_clear_30 : decode cX10_clear 30 = .ok (.iload_n 1, 1) := by decide +kernel
theorem dX10_clear_31 : decode cX10_clear 31 = .ok (.ireturn, 1) := by decide +kernel
theorem dX10_isProgram_0 : decode cX10_isProgram 0 = .ok (.iload_n 1, 1) := by decide +kernel
theorem dX10_isProgram_1 : decode cX10_isProgram 1 = .ok (.iconst 0, 1) := by decide +kernel
theorem dX10_isProgram_2 : decode cX10_isProgram 2 = .ok (.aload_n 0, 1) := by decide +kernel
theorem dX10_isProgram_3 : decode cX10_isProgram 3 = .ok (.getfield 146, 3) := by decide +kernel
theorem dX10_isProgram_6 : decode cX10_isProgram 6 = .ok (.iconst 1, 1) := by decide +kernel
theorem dX10_isProgram_7 : decode cX10_isProgram 7 = .ok (.isub, 1) := by decide +kernel
theorem dX10_isProgram_8 : decode cX10_isProgram 8 = .ok (.invokestatic 124, 3) := by decide +kernel
theorem dX10_isProgram_11 : decode cX10_isProgram 11 = .ok (.ireturn, 1) := by decide +kernel
theorem dX10_holds_0 : decode cX10_holds 0 = .ok (.iload_n 0, 1) := by decide +kernel
theorem dX10_holds_1 : decode cX10_holds 1 = .ok (.ifCond .ne 9, 3) := by decide +kernel
theorem dX10_holds_4 : decode cX10_holds 4 = .ok (.iload_n 1, 1) := by decide +kernel
theorem dX10_holds_5 : decode cX10_holds 5 = .ok (.iconst 2, 1) := by decide +kernel
theorem dX10_holds_6 : decode cX10_holds 6 = .ok (.idiv, 1) := by decide +kernel
theorem dX10_holds_7 : decode cX10_holds 7 = .ok (.goto 4, 3) := by decide +kernel
theorem dX10_holds_10 : decode cX10_holds 10 = .ok (.iload_n 1, 1) := by decide +kernel
theorem dX10_holds_11 : decode cX10_holds 11 = .ok (.ireturn, 1) := by decide +kernel
theorem dX10_cost_0 : decode cX10_cost 0 = .ok (.iload_n 0, 1) := by decide +kernel
theorem dX10_cost_1 : decode cX10_cost 1 = .ok (.ifCond .ne 11, 3) := by decide +kernel
theorem dX10_cost_4 : decode cX10_cost 4 = .ok (.iconst 1, 1) := by decide +kernel
theorem dX10_cost_5 : decode cX10_cost 5 = .ok (.iconst 2, 1) := by decide +kernel
theorem dX10_cost_6 : decode cX10_cost 6 = .ok (.iload_n 1, 1) := by decide +kernel
theorem dX10_cost_7 : decode cX10_cost 7 = .ok (.imul, 1) := by decide +kernel
theorem dX10_cost_8 : decode cX10_cost 8 = .ok (.iadd, 1) := by decide +kernel
theorem dX10_cost_9 : decode cX10_cost 9 = .ok (.goto 10, 3) := by decide +kernel
theorem dX10_cost_12 : decode cX10_cost 12 = .ok (.iconst 1, 1) := by decide +kernel
theorem dX10_cost_13 : decode cX10_cost 13 = .ok (.iload_n 1, 1) := by decide +kernel
theorem dX10_cost_14 : decode cX10_cost 14 = .ok (.iadd, 1) := by decide +kernel
theorem dX10_cost_15 : decode cX10_cost 15 = .ok (.iload_n 2, 1) := by decide +kernel
theorem dX10_cost_16 : decode cX10_cost 16 = .ok (.iconst 2, 1) := by decide +kernel
theorem dX10_cost_17 : decode cX10_cost 17 = .ok (.idiv, 1) := by decide +kernel
theorem dX10_cost_18 : decode cX10_cost 18 = .ok (.iadd, 1) := by decide +kernel
theorem dX10_cost_19 : decode cX10_cost 19 = .ok (.ireturn, 1) := by decide +kernel
theorem dX10_alone_0 : decode cX10_alone 0 = .ok (.aload_n 0, 1) := by decide +kernel
theorem dX10_alone_1 : decode cX10_alone 1 = .ok (.getfield 42, 3) := by decide +kernel
theorem dX10_alone_4 : decode cX10_alone 4 = .ok (.iload_n 1, 1) := by decide +kernel
theorem dX10_alone_5 : decode cX10_alone 5 = .ok (.iaload, 1) := by decide +kernel
theorem dX10_alone_6 : decode cX10_alone 6 = .ok (.iload_n 2, 1) := by decide +kernel
theorem dX10_alone_7 : decode cX10_alone 7 = .ok (.invokestatic 160, 3) := by decide +kernel
theorem dX10_alone_10 : decode cX10_alone 10 = .ok (.istore_n 3, 1) := by decide +kernel
theorem dX10_alone_11 : decode cX10_alone 11 = .ok (.iconst 0, 1) := by decide +kernel
theorem dX10_alone_12 : decode cX10_alone 12 = .ok (.istore 4, 2) := by decide +kernel
theorem dX10_alone_14 : decode cX10_alone 14 = .ok (.iconst 0, 1) := by decide +kernel
theorem dX10_alone_15 : decode cX10_alone 15 = .ok (.istore 5, 2) := by decide +kernel
theorem dX10_alone_17 : decode cX10_alone 17 = .ok (.iconst 0, 1) := by decide +kernel
theorem dX10_alone_18 : decode cX10_alone 18 = .ok (.istore 6, 2) := by decide +kernel
theorem dX10_alone_20 : decode cX10_alone 20 = .ok (.iconst 0, 1) := by decide +kernel
theorem dX10_alone_21 : decode cX10_alone 21 = .ok (.istore 7, 2) := by decide +kernel
theorem dX10_alone_23 : decode cX10_alone 23 = .ok (.iconst 0, 1) := by decide +kernel
theorem dX10_alone_24 : decode cX10_alone 24 = .ok (.istore 8, 2) := by decide +kernel
theorem dX10_alone_26 : decode cX10_alone 26 = .ok (.iload 8, 2) := by decide +kernel
theorem dX10_alone_28 : decode cX10_alone 28 = .ok (.aload_n 0, 1) := by decide +kernel
theorem dX10_alone_29 : decode cX10_alone 29 = .ok (.getfield 45, 3) := by decide +kernel
theorem dX10_alone_32 : decode cX10_alone 32 = .ok (.iload_n 1, 1) := by decide +kernel
theorem dX10_alone_33 : decode cX10_alone 33 = .ok (.iaload, 1) := by decide +kernel
theorem dX10_alone_34 : decode cX10_alone 34 = .ok (.if_icmp .ge 202, 3) := by decide +kernel
theorem dX10_alone_37 : decode cX10_alone 37 = .ok (.iconst 0, 1) := by decide +kernel
theorem dX10_alone_38 : decode cX10_alone 38 = .ok (.istore 9, 2) := by decide +kernel
theorem dX10_alone_40 : decode cX10_alone 40 = .ok (.iload 9, 2) := by decide +kernel
theorem dX10_alone_42 : decode cX10_alone 42 = .ok (.aload_n 0, 1) := by decide +kernel
theorem dX10_alone_43 : decode cX10_alone 43 = .ok (.getfield 36, 3) := by decide +kernel
theorem dX10_alone_46 : decode cX10_alone 46 = .ok (.iload_n 1, 1) := by decide +kernel
theorem dX10_alone_47 : decode cX10_alone 47 = .ok (.iaload, 1) := by decide +kernel
theorem dX10_alone_48 : decode cX10_alone 48 = .ok (.if_icmp .ge 182, 3) := by decide +kernel
theorem dX10_alone_51 : decode cX10_alone 51 = .ok (.aload_n 0, 1) := by decide +kernel
theorem dX10_alone_52 : decode cX10_alone 52 = .ok (.getfield 39, 3) := by decide +kernel
theorem dX10_alone_55 : decode cX10_alone 55 = .ok (.bipush 60, 2) := by decide +kernel
theorem dX10_alone_57 : decode cX10_alone 57 = .ok (.iload_n 1, 1) := by decide +kernel
theorem dX10_alone_58 : decode cX10_alone 58 = .ok (.imul, 1) := by decide +kernel
theorem dX10_alone_59 : decode cX10_alone 59 = .ok (.iload 9, 2) := by decide +kernel
theorem dX10_alone_61 : decode cX10_alone 61 = .ok (.iadd, 1) := by decide +kernel
theorem dX10_alone_62 : decode cX10_alone 62 = .ok (.iaload, 1) := by decide +kernel
theorem dX10_alone_63 : decode cX10_alone 63 = .ok (.istore 10, 2) := by decide +kernel
theorem dX10_alone_65 : decode cX10_alone 65 = .ok (.iload 4, 2) := by decide +kernel
theorem dX10_alone_67 : decode cX10_alone 67 = .ok (.iload 10, 2) := by decide +kernel
theorem dX10_alone_69 : decode cX10_alone 69 = .ok (.sipush 1000, 3) := by decide +kernel
theorem dX10_alone_72 : decode cX10_alone 72 = .ok (.if_icmp .le 12, 3) := by decide +kernel
theorem dX10_alone_75 : decode cX10_alone 75 = .ok (.iload 10, 2) := by decide +kernel
theorem dX10_alone_77 : decode cX10_alone 77 = .ok (.sipush 1000, 3) := by decide +kernel
theorem dX10_alone_80 : decode cX10_alone 80 = .ok (.isub, 1) := by decide +kernel
theorem dX10_alone_81 : decode cX10_alone 81 = .ok (.goto 4, 3) := by decide +kernel
theorem dX10_alone_84 : decode cX10_alone 84 = .ok (.iconst 1, 1) := by decide +kernel
theorem dX10_alone_85 : decode cX10_alone 85 = .ok (.iadd, 1) := by decide +kernel
theorem dX10_alone_86 : decode cX10_alone 86 = .ok (.istore 4, 2) := by decide +kernel
theorem dX10_alone_88 : decode cX10_alone 88 = .ok (.iload 10, 2) := by decide +kernel
theorem dX10_alone_90 : decode cX10_alone 90 = .ok (.sipush 1000, 3) := by decide +kernel
theorem dX10_alone_93 : decode cX10_alone 93 = .ok (.if_icmp .gt 131, 3) := by decide +kernel
theorem dX10_alone_96 : decode cX10_alone 96 = .ok (.iload 10, 2) := by decide +kernel
theorem dX10_alone_98 : decode cX10_alone 98 = .ok (.ifCond .ne 6, 3) := by decide +kernel
theorem dX10_alone_101 : decode cX10_alone 101 = .ok (.goto 123, 3) := by decide +kernel
theorem dX10_alone_104 : decode cX10_alone 104 = .ok (.iload 10, 2) := by decide +kernel
theorem dX10_alone_106 : decode cX10_alone 106 = .ok (.ifCond .ge 43, 3) := by decide +kernel
theorem dX10_alone_109 : decode cX10_alone 109 = .ok (.iload 5, 2) := by decide +kernel
theorem dX10_alone_111 : decode cX10_alone 111 = .ok (.iload 10, 2) := by decide +kernel
theorem dX10_alone_113 : decode cX10_alone 113 = .ok (.iadd, 1) := by decide +kernel
theorem dX10_alone_114 : decode cX10_alone 114 = .ok (.ifCond .ge 6, 3) := by decide +kernel
theorem dX10_alone_117 : decode cX10_alone 117 = .ok (.goto 107, 3) := by decide +kernel
theorem dX10_alone_120 : decode cX10_alone 120 = .ok (.iload 6, 2) := by decide +kernel
theorem dX10_alone_122 : decode cX10_alone 122 = .ok (.aload_n 0, 1) := by decide +kernel
theorem dX10_alone_123 : decode cX10_alone 123 = .ok (.getfield 51, 3) := by decide +kernel
theorem dX10_alone_126 : decode cX10_alone 126 = .ok (.iload 5, 2) := by decide +kernel
theorem dX10_alone_128 : decode cX10_alone 128 = .ok (.iload 10, 2) := by decide +kernel
theorem dX10_alone_130 : decode cX10_alone 130 = .ok (.iadd, 1) := by decide +kernel
theorem dX10_alone_131 : decode cX10_alone 131 = .ok (.iaload, 1) := by decide +kernel
theorem dX10_alone_132 : decode cX10_alone 132 = .ok (.isub, 1) := by decide +kernel
theorem dX10_alone_133 : decode cX10_alone 133 = .ok (.istore 6, 2) := by decide +kernel
theorem dX10_alone_135 : decode cX10_alone 135 = .ok (.aload_n 0, 1) := by decide +kernel
theorem dX10_alone_136 : decode cX10_alone 136 = .ok (.getfield 51, 3) := by decide +kernel
theorem dX10_alone_139 : decode cX10_alone 139 = .ok (.iload 5, 2) := by decide +kernel
theorem dX10_alone_141 : decode cX10_alone 141 = .ok (.iload 10, 2) := by decide +kernel
theorem dX10_alone_143 : decode cX10_alone 143 = .ok (.iadd, 1) := by decide +kernel
theorem dX10_alone_144 : decode cX10_alone 144 = .ok (.iconst 0, 1) := by decide +kernel
theorem dX10_alone_145 : decode cX10_alone 145 = .ok (.iastore, 1) := by decide +kernel
theorem dX10_alone_146 : decode cX10_alone 146 = .ok (.goto 78, 3) := by decide +kernel
theorem dX10_alone_149 : decode cX10_alone 149 = .ok (.iload 7, 2) := by decide +kernel
theorem dX10_alone_151 : decode cX10_alone 151 = .ok (.iload 10, 2) := by decide +kernel
theorem dX10_alone_153 : decode cX10_alone 153 = .ok (.iadd, 1) := by decide +kernel
theorem dX10_alone_154 : decode cX10_alone 154 = .ok (.iload_n 3, 1) := by decide +kernel
theorem dX10_alone_155 : decode cX10_alone 155 = .ok (.if_icmp .le 32, 3) := by decide +kernel
theorem dX10_alone_158 : decode cX10_alone 158 = .ok (.iload 7, 2) := by decide +kernel
theorem dX10_alone_160 : decode cX10_alone 160 = .ok (.iload 6, 2) := by decide +kernel
theorem dX10_alone_162 : decode cX10_alone 162 = .ok (.if_icmp .le 25, 3) := by decide +kernel
theorem dX10_alone_165 : decode cX10_alone 165 = .ok (.iload 4, 2) := by decide +kernel
theorem dX10_alone_167 : decode cX10_alone 167 = .ok (.aload_n 0, 1) := by decide +kernel
theorem dX10_alone_168 : decode cX10_alone 168 = .ok (.getfield 42, 3) := by decide +kernel
theorem dX10_alone_171 : decode cX10_alone 171 = .ok (.iload_n 1, 1) := by decide +kernel
theorem dX10_alone_172 : decode cX10_alone 172 = .ok (.iaload, 1) := by decide +kernel
theorem dX10_alone_173 : decode cX10_alone 173 = .ok (.iload 6, 2) := by decide +kernel
theorem dX10_alone_175 : decode cX10_alone 175 = .ok (.iload 7, 2) := by decide +kernel
theorem dX10_alone_177 : decode cX10_alone 177 = .ok (.invokestatic 164, 3) := by decide +kernel
theorem dX10_alone_180 : decode cX10_alone 180 = .ok (.iadd, 1) := by decide +kernel
theorem dX10_alone_181 : decode cX10_alone 181 = .ok (.istore 4, 2) := by decide +kernel
theorem dX10_alone_183 : decode cX10_alone 183 = .ok (.iload 6, 2) := by decide +kernel
theorem dX10_alone_185 : decode cX10_alone 185 = .ok (.istore 7, 2) := by decide +kernel
theorem dX10_alone_187 : decode cX10_alone 187 = .ok (.iload 7, 2) := by decide +kernel
theorem dX10_alone_189 : decode cX10_alone 189 = .ok (.iload 10, 2) := by decide +kernel
theorem dX10_alone_191 : decode cX10_alone 191 = .ok (.iadd, 1) := by decide +kernel
theorem dX10_alone_192 : decode cX10_alone 192 = .ok (.iload_n 3, 1) := by decide +kernel
theorem dX10_alone_193 : decode cX10_alone 193 = .ok (.if_icmp .le 5, 3) := by decide +kernel
theorem dX10_alone_196 : decode cX10_alone 196 = .ok (.iconst (-1), 1) := by decide +kernel
theorem dX10_alone_197 : decode cX10_alone 197 = .ok (.ireturn, 1) := by decide +kernel
theorem dX10_alone_198 : decode cX10_alone 198 = .ok (.aload_n 0, 1) := by decide +kernel
theorem dX10_alone_199 : decode cX10_alone 199 = .ok (.getfield 51, 3) := by decide +kernel
theorem dX10_alone_202 : decode cX10_alone 202 = .ok (.iload 5, 2) := by decide +kernel
theorem dX10_alone_204 : decode cX10_alone 204 = .ok (.iload 10, 2) := by decide +kernel
theorem dX10_alone_206 : decode cX10_alone 206 = .ok (.iastore, 1) := by decide +kernel
theorem dX10_alone_207 : decode cX10_alone 207 = .ok (.iinc 5 1, 3) := by decide +kernel
theorem dX10_alone_210 : decode cX10_alone 210 = .ok (.iload 6, 2) := by decide +kernel
theorem dX10_alone_212 : decode cX10_alone 212 = .ok (.iload 10, 2) := by decide +kernel
theorem dX10_alone_214 : decode cX10_alone 214 = .ok (.iadd, 1) := by decide +kernel
theorem dX10_alone_215 : decode cX10_alone 215 = .ok (.istore 6, 2) := by decide +kernel
theorem dX10_alone_217 : decode cX10_alone 217 = .ok (.iload 7, 2) := by decide +kernel
theorem dX10_alone_219 : decode cX10_alone 219 = .ok (.iload 10, 2) := by decide +kernel
theorem dX10_alone_221 : decode cX10_alone 221 = .ok (.iadd, 1) := by decide +kernel
theorem dX10_alone_222 : decode cX10_alone 222 = .ok (.istore 7, 2) := by decide +kernel
theorem dX10_alone_224 : decode cX10_alone 224 = .ok (.iinc 9 1, 3) := by decide +kernel
theorem dX10_alone_227 : decode cX10_alone 227 = .ok (.goto (-187), 3) := by decide +kernel
theorem dX10_alone_230 : decode cX10_alone 230 = .ok (.iinc 8 1, 3) := by decide +kernel
theorem dX10_alone_233 : decode cX10_alone 233 = .ok (.goto (-207), 3) := by decide +kernel
theorem dX10_alone_236 : decode cX10_alone 236 = .ok (.iload 4, 2) := by decide +kernel
theorem dX10_alone_238 : decode cX10_alone 238 = .ok (.ireturn, 1) := by decide +kernel
theorem dX10_time_0 : decode cX10_time 0 = .ok (.aload_n 0, 1) := by decide +kernel
theorem dX10_time_1 : decode cX10_time 1 = .ok (.iconst 0, 1) := by decide +kernel
theorem dX10_time_2 : decode cX10_time 2 = .ok (.putfield 121, 3) := by decide +kernel
theorem dX10_time_5 : decode cX10_time 5 = .ok (.aload_n 0, 1) := by decide +kernel
theorem dX10_time_6 : decode cX10_time 6 = .ok (.iload_n 1, 1) := by decide +kernel
theorem dX10_time_7 : decode cX10_time 7 = .ok (.invokevirtual 168, 3) := by decide +kernel
theorem dX10_time_10 : decode cX10_time 10 = .ok (.ifCond .eq 23, 3) := by decide +kernel
theorem dX10_time_13 : decode cX10_time 13 = .ok (.iload_n 2, 1) := by decide +kernel
theorem dX10_time_14 : decode cX10_time 14 = .ok (.iconst 0, 1) := by decide +kernel
theorem dX10_time_15 : decode cX10_time 15 = .ok (.sipush 4096, 3) := by decide +kernel
theorem dX10_time_18 : decode cX10_time 18 = .ok (.invokestatic 124, 3) := by decide +kernel
theorem dX10_time_21 : decode cX10_time 21 = .ok (.ifCond .eq 12, 3) := by decide +kernel
theorem dX10_time_24 : decode cX10_time 24 = .ok (.aload_n 0, 1) := by decide +kernel
theorem dX10_time_25 : decode cX10_time 25 = .ok (.iload_n 1, 1) := by decide +kernel
theorem dX10_time_26 : decode cX10_time 26 = .ok (.iload_n 2, 1) := by decide +kernel
theorem dX10_time_27 : decode cX10_time 27 = .ok (.invokevirtual 171, 3) := by decide +kernel
theorem dX10_time_30 : decode cX10_time 30 = .ok (.goto 5, 3) := by decide +kernel
theorem dX10_time_33 : decode cX10_time 33 = .ok (.bipush (-2), 2) := by decide +kernel
theorem dX10_time_35 : decode cX10_time 35 = .ok (.ireturn, 1) := by decide +kernel
theorem dX10_up_0 : decode cX10_up 0 = .ok (.iload_n 1, 1) := by decide +kernel
theorem dX10_up_1 : decode cX10_up 1 = .ok (.aload_n 0, 1) := by decide +kernel
theorem dX10_up_2 : decode cX10_up 2 = .ok (.getfield 23, 3) := by decide +kernel
theorem dX10_up_5 : decode cX10_up 5 = .ok (.iadd, 1) := by decide +kernel
theorem dX10_up_6 : decode cX10_up 6 = .ok (.iconst 1, 1) := by decide +kernel
theorem dX10_up_7 : decode cX10_up 7 = .ok (.isub, 1) := by decide +kernel
theorem dX10_up_8 : decode cX10_up 8 = .ok (.aload_n 0, 1) := by decide +kernel
theorem dX10_up_9 : decode cX10_up 9 = .ok (.getfield 23, 3) := by decide +kernel
theorem dX10_up_12 : decode cX10_up 12 = .ok (.idiv, 1) := by decide +kernel
theorem dX10_up_13 : decode cX10_up 13 = .ok (.aload_n 0, 1) := by decide +kernel
theorem dX10_up_14 : decode cX10_up 14 = .ok (.getfield 23, 3) := by decide +kernel
theorem dX10_up_17 : decode cX10_up 17 = .ok (.imul, 1) := by decide +kernel
theorem dX10_up_18 : decode cX10_up 18 = .ok (.ireturn, 1) := by decide +kernel
theorem dX10_needOf_0 : decode cX10_needOf 0 = .ok (.aload_n 0, 1) := by decide +kernel
theorem dX10_needOf_1 : decode cX10_needOf 1 = .ok (.aload_n 0, 1) := by decide +kernel
theorem dX10_needOf_2 : decode cX10_needOf 2 = .ok (.getfield 48, 3) := by decide +kernel
theorem dX10_needOf_5 : decode cX10_needOf 5 = .ok (.iload_n 1, 1) := by decide +kernel
theorem dX10_needOf_6 : decode cX10_needOf 6 = .ok (.iaload, 1) := by decide +kernel
theorem dX10_needOf_7 : decode cX10_needOf 7 = .ok (.invokevirtual 174, 3) := by decide +kernel
theorem dX10_needOf_10 : decode cX10_needOf 10 = .ok (.istore_n 2, 1) := by decide +kernel
theorem dX10_needOf_11 : decode cX10_needOf 11 = .ok (.iload_n 2, 1) := by decide +kernel
theorem dX10_needOf_12 : decode cX10_needOf 12 = .ok (.aload_n 0, 1) := by decide +kernel
theorem dX10_needOf_13 : decode cX10_needOf 13 = .ok (.getfield 27, 3) := by decide +kernel
theorem dX10_needOf_16 : decode cX10_needOf 16 = .ok (.if_icmp .gt 25, 3) := by decide +kernel
theorem dX10_needOf_19 : decode cX10_needOf 19 = .ok (.aload_n 0, 1) := by decide +kernel
theorem dX10_needOf_20 : decode cX10_needOf 20 = .ok (.iload_n 1, 1) := by decide +kernel
theorem dX10_needOf_21 : decode cX10_needOf 21 = .ok (.iload_n 2, 1) := by decide +kernel
theorem dX10_needOf_22 : decode cX10_needOf 22 = .ok (.invokevirtual 171, 3) := by decide +kernel
theorem dX10_needOf_25 : decode cX10_needOf 25 = .ok (.iconst (-1), 1) := by decide +kernel
theorem dX10_needOf_26 : decode cX10_needOf 26 = .ok (.if_icmp .eq 5, 3) := by decide +kernel
theorem dX10_needOf_29 : decode cX10_needOf 29 = .ok (.iload_n 2, 1) := by decide +kernel
theorem dX10_needOf_30 : decode cX10_needOf 30 = .ok (.ireturn, 1) := by decide +kernel
theorem dX10_needOf_31 : decode cX10_needOf 31 = .ok (.iload_n 2, 1) := by decide +kernel
theorem dX10_needOf_32 : decode cX10_needOf 32 = .ok (.aload_n 0, 1) := by decide +kernel
theorem dX10_needOf_33 : decode cX10_needOf 33 = .ok (.getfield 23, 3) := by decide +kernel
theorem dX10_needOf_36 : decode cX10_needOf 36 = .ok (.iadd, 1) := by decide +kernel
theorem dX10_needOf_37 : decode cX10_needOf 37 = .ok (.istore_n 2, 1) := by decide +kernel
theorem dX10_needOf_38 : decode cX10_needOf 38 = .ok (.goto (-27), 3) := by decide +kernel
theorem dX10_needOf_41 : decode cX10_needOf 41 = .ok (.iconst (-1), 1) := by decide +kernel
theorem dX10_needOf_42 : decode cX10_needOf 42 = .ok (.ireturn, 1) := by decide +kernel
theorem dX10_need_0 : decode cX10_need 0 = .ok (.aload_n 0, 1) := by decide +kernel
theorem dX10_need_1 : decode cX10_need 1 = .ok (.iconst 0, 1) := by decide +kernel
theorem dX10_need_2 : decode cX10_need 2 = .ok (.putfield 121, 3) := by decide +kernel
theorem dX10_need_5 : decode cX10_need 5 = .ok (.aload_n 0, 1) := by decide +kernel
theorem dX10_need_6 : decode cX10_need 6 = .ok (.iload_n 1, 1) := by decide +kernel
theorem dX10_need_7 : decode cX10_need 7 = .ok (.invokevirtual 168, 3) := by decide +kernel
theorem dX10_need_10 : decode cX10_need 10 = .ok (.ifCond .eq 11, 3) := by decide +kernel
theorem dX10_need_13 : decode cX10_need 13 = .ok (.aload_n 0, 1) := by decide +kernel
theorem dX10_need_14 : decode cX10_need 14 = .ok (.iload_n 1, 1) := by decide +kernel
theorem dX10_need_15 : decode cX10_need 15 = .ok (.invokevirtual 178, 3) := by decide +kernel
theorem dX10_need_18 : decode cX10_need 18 = .ok (.goto 5, 3) := by decide +kernel
theorem dX10_need_21 : decode cX10_need 21 = .ok (.bipush (-2), 2) := by decide +kernel
theorem dX10_need_23 : decode cX10_need 23 = .ok (.ireturn, 1) := by decide +kernel
theorem dX10_falls_0 : decode cX10_falls 0 = .ok (.aload_n 0, 1) := by decide +kernel
theorem dX10_falls_1 : decode cX10_falls 1 = .ok (.iconst 0, 1) := by decide +kernel
theorem dX10_falls_2 : decode cX10_falls 2 = .ok (.putfield 121, 3) := by decide +kernel
theorem dX10_falls_5 : decode cX10_falls 5 = .ok (.aload_n 0, 1) := by decide +kernel
theorem dX10_falls_6 : decode cX10_falls 6 = .ok (.iload_n 1, 1) := by decide +kernel
theorem dX10_falls_7 : decode cX10_falls 7 = .ok (.invokevirtual 168, 3) := by decide +kernel
theorem dX10_falls_10 : decode cX10_falls 10 = .ok (.ifCond .ne 6, 3) := by decide +kernel
theorem dX10_falls_13 : decode cX10_falls 13 = .ok (.bipush (-2), 2) := by decide +kernel
theorem dX10_falls_15 : decode cX10_falls 15 = .ok (.ireturn, 1) := by decide +kernel
theorem dX10_falls_16 : decode cX10_falls 16 = .ok (.aload_n 0, 1) := by decide +kernel
theorem dX10_falls_17 : decode cX10_falls 17 = .ok (.iload_n 1, 1) := by decide +kernel
theorem dX10_falls_18 : decode cX10_falls 18 = .ok (.invokevirtual 178, 3) := by decide +kernel
theorem dX10_falls_21 : decode cX10_falls 21 = .ok (.istore_n 2, 1) := by decide +kernel
theorem dX10_falls_22 : decode cX10_falls 22 = .ok (.iload_n 2, 1) := by decide +kernel
theorem dX10_falls_23 : decode cX10_falls 23 = .ok (.iconst (-1), 1) := by decide +kernel
theorem dX10_falls_24 : decode cX10_falls 24 = .ok (.if_icmp .ne 5, 3) := by decide +kernel
theorem dX10_falls_27 : decode cX10_falls 27 = .ok (.iconst (-1), 1) := by decide +kernel
theorem dX10_falls_28 : decode cX10_falls 28 = .ok (.ireturn, 1) := by decide +kernel
theorem dX10_falls_29 : decode cX10_falls 29 = .ok (.ldc 183, 2) := by decide +kernel
theorem dX10_falls_31 : decode cX10_falls 31 = .ok (.istore_n 3, 1) := by decide +kernel
theorem dX10_falls_32 : decode cX10_falls 32 = .ok (.aload_n 0, 1) := by decide +kernel
theorem dX10_falls_33 : decode cX10_falls 33 = .ok (.iload_n 1, 1) := by decide +kernel
theorem dX10_falls_34 : decode cX10_falls 34 = .ok (.iload_n 2, 1) := by decide +kernel
theorem dX10_falls_35 : decode cX10_falls 35 = .ok (.invokevirtual 171, 3) := by decide +kernel
theorem dX10_falls_38 : decode cX10_falls 38 = .ok (.istore 4, 2) := by decide +kernel
theorem dX10_falls_40 : decode cX10_falls 40 = .ok (.iload_n 2, 1) := by decide +kernel
theorem dX10_falls_41 : decode cX10_falls 41 = .ok (.aload_n 0, 1) := by decide +kernel
theorem dX10_falls_42 : decode cX10_falls 42 = .ok (.getfield 23, 3) := by decide +kernel
theorem dX10_falls_45 : decode cX10_falls 45 = .ok (.iadd, 1) := by decide +kernel
theorem dX10_falls_46 : decode cX10_falls 46 = .ok (.aload_n 0, 1) := by decide +kernel
theorem dX10_falls_47 : decode cX10_falls 47 = .ok (.getfield 27, 3) := by decide +kernel
theorem dX10_falls_50 : decode cX10_falls 50 = .ok (.if_icmp .gt 48, 3) := by decide +kernel
theorem dX10_falls_53 : decode cX10_falls 53 = .ok (.iload_n 2, 1) := by decide +kernel
theorem dX10_falls_54 : decode cX10_falls 54 = .ok (.aload_n 0, 1) := by decide +kernel
theorem dX10_falls_55 : decode cX10_falls 55 = .ok (.getfield 23, 3) := by decide +kernel
theorem dX10_falls_58 : decode cX10_falls 58 = .ok (.iadd, 1) := by decide +kernel
theorem dX10_falls_59 : decode cX10_falls 59 = .ok (.istore_n 2, 1) := by decide +kernel
theorem dX10_falls_60 : decode cX10_falls 60 = .ok (.aload_n 0, 1) := by decide +kernel
theorem dX10_falls_61 : decode cX10_falls 61 = .ok (.iload_n 1, 1) := by decide +kernel
theorem dX10_falls_62 : decode cX10_falls 62 = .ok (.iload_n 2, 1) := by decide +kernel
theorem dX10_falls_63 : decode cX10_falls 63 = .ok (.invokevirtual 171, 3) := by decide +kernel
theorem dX10_falls_66 : decode cX10_falls 66 = .ok (.istore 5, 2) := by decide +kernel
theorem dX10_falls_68 : decode cX10_falls 68 = .ok (.iload 4, 2) := by decide +kernel
theorem dX10_falls_70 : decode cX10_falls 70 = .ok (.iload 5, 2) := by decide +kernel
theorem dX10_falls_72 : decode cX10_falls 72 = .ok (.isub, 1) := by decide +kernel
theorem dX10_falls_73 : decode cX10_falls 73 = .ok (.istore 6, 2) := by decide +kernel
theorem dX10_falls_75 : decode cX10_falls 75 = .ok (.iload 6, 2) := by decide +kernel
theorem dX10_falls_77 : decode cX10_falls 77 = .ok (.ifCond .lt 9, 3) := by decide +kernel
theorem dX10_falls_80 : decode cX10_falls 80 = .ok (.iload 6, 2) := by decide +kernel
theorem dX10_falls_82 : decode cX10_falls 82 = .ok (.iload_n 3, 1) := by decide +kernel
theorem dX10_falls_83 : decode cX10_falls 83 = .ok (.if_icmp .le 5, 3) := by decide +kernel
theorem dX10_falls_86 : decode cX10_falls 86 = .ok (.iconst 0, 1) := by decide +kernel
theorem dX10_falls_87 : decode cX10_falls 87 = .ok (.ireturn, 1) := by decide +kernel
theorem dX10_falls_88 : decode cX10_falls 88 = .ok (.iload 6, 2) := by decide +kernel
theorem dX10_falls_90 : decode cX10_falls 90 = .ok (.istore_n 3, 1) := by decide +kernel
theorem dX10_falls_91 : decode cX10_falls 91 = .ok (.iload 5, 2) := by decide +kernel
theorem dX10_falls_93 : decode cX10_falls 93 = .ok (.istore 4, 2) := by decide +kernel
theorem dX10_falls_95 : decode cX10_falls 95 = .ok (.goto (-55), 3) := by decide +kernel
theorem dX10_falls_98 : decode cX10_falls 98 = .ok (.iconst 1, 1) := by decide +kernel
theorem dX10_falls_99 : decode cX10_falls 99 = .ok (.ireturn, 1) := by decide +kernel
theorem dX10_areNeeds_0 : decode cX10_areNeeds 0 = .ok (.iconst 0, 1) := by decide +kernel
theorem dX10_areNeeds_1 : decode cX10_areNeeds 1 = .ok (.istore_n 1, 1) := by decide +kernel
theorem dX10_areNeeds_2 : decode cX10_areNeeds 2 = .ok (.iconst 0, 1) := by decide +kernel
theorem dX10_areNeeds_3 : decode cX10_areNeeds 3 = .ok (.istore_n 2, 1) := by decide +kernel
theorem dX10_areNeeds_4 : decode cX10_areNeeds 4 = .ok (.iload_n 2, 1) := by decide +kernel
theorem dX10_areNeeds_5 : decode cX10_areNeeds 5 = .ok (.aload_n 0, 1) := by decide +kernel
theorem dX10_areNeeds_6 : decode cX10_areNeeds 6 = .ok (.getfield 146, 3) := by decide +kernel
theorem dX10_areNeeds_9 : decode cX10_areNeeds 9 = .ok (.if_icmp .ge 41, 3) := by decide +kernel
theorem dX10_areNeeds_12 : decode cX10_areNeeds 12 = .ok (.aload_n 0, 1) := by decide +kernel
theorem dX10_areNeeds_13 : decode cX10_areNeeds 13 = .ok (.getfield 57, 3) := by decide +kernel
theorem dX10_areNeeds_16 : decode cX10_areNeeds 16 = .ok (.iload_n 2, 1) := by decide +kernel
theorem dX10_areNeeds_17 : decode cX10_areNeeds 17 = .ok (.aload_n 0, 1) := by decide +kernel
theorem dX10_areNeeds_18 : decode cX10_areNeeds 18 = .ok (.iload_n 2, 1) := by decide +kernel
theorem dX10_areNeeds_19 : decode cX10_areNeeds 19 = .ok (.invokevirtual 178, 3) := by decide +kernel
theorem dX10_areNeeds_22 : decode cX10_areNeeds 22 = .ok (.iastore, 1) := by decide +kernel
theorem dX10_areNeeds_23 : decode cX10_areNeeds 23 = .ok (.aload_n 0, 1) := by decide +kernel
theorem dX10_areNeeds_24 : decode cX10_areNeeds 24 = .ok (.getfield 57, 3) := by decide +kernel
theorem dX10_areNeeds_27 : decode cX10_areNeeds 27 = .ok (.iload_n 2, 1) := by decide +kernel
theorem dX10_areNeeds_28 : decode cX10_areNeeds 28 = .ok (.iaload, 1) := by decide +kernel
theorem dX10_areNeeds_29 : decode cX10_areNeeds 29 = .ok (.iconst (-1), 1) := by decide +kernel
theorem dX10_areNeeds_30 : decode cX10_areNeeds 30 = .ok (.if_icmp .ne 5, 3) := by decide +kernel
theorem dX10_areNeeds_33 : decode cX10_areNeeds 33 = .ok (.iconst 0, 1) := by decide +kernel
theorem dX10_areNeeds_34 : decode cX10_areNeeds 34 = .ok (.ireturn, 1) := by decide +kernel
theorem dX10_areNeeds_35 : decode cX10_areNeeds 35 = .ok (.iload_n 1, 1) := by decide +kernel
theorem dX10_areNeeds_36 : decode cX10_areNeeds 36 = .ok (.aload_n 0, 1) := by decide +kernel
theorem dX10_areNeeds_37 : decode cX10_areNeeds 37 = .ok (.getfield 57, 3) := by decide +kernel
theorem dX10_areNeeds_40 : decode cX10_areNeeds 40 = .ok (.iload_n 2, 1) := by decide +kernel
theorem dX10_areNeeds_41 : decode cX10_areNeeds 41 = .ok (.iaload, 1) := by decide +kernel
theorem dX10_areNeeds_42 : decode cX10_areNeeds 42 = .ok (.iadd, 1) := by decide +kernel
theorem dX10_areNeeds_43 : decode cX10_areNeeds 43 = .ok (.istore_n 1, 1) := by decide +kernel
theorem dX10_areNeeds_44 : decode cX10_areNeeds 44 = .ok (.iinc 2 1, 3) := by decide +kernel
theorem dX10_areNeeds_47 : decode cX10_areNeeds 47 = .ok (.goto (-43), 3) := by decide +kernel
theorem dX10_areNeeds_50 : decode cX10_areNeeds 50 = .ok (.iload_n 1, 1) := by decide +kernel
theorem dX10_areNeeds_51 : decode cX10_areNeeds 51 = .ok (.aload_n 0, 1) := by decide +kernel
theorem dX10_areNeeds_52 : decode cX10_areNeeds 52 = .ok (.getfield 27, 3) := by decide +kernel
theorem dX10_areNeeds_55 : decode cX10_areNeeds 55 = .ok (.aload_n 0, 1) := by decide +kernel
theorem dX10_areNeeds_56 : decode cX10_areNeeds 56 = .ok (.getfield 140, 3) := by decide +kernel
theorem dX10_areNeeds_59 : decode cX10_areNeeds 59 = .ok (.isub, 1) := by decide +kernel
theorem dX10_areNeeds_60 : decode cX10_areNeeds 60 = .ok (.if_icmp .gt 7, 3) := by decide +kernel
theorem dX10_areNeeds_63 : decode cX10_areNeeds 63 = .ok (.iconst 1, 1) := by decide +kernel
theorem dX10_areNeeds_64 : decode cX10_areNeeds 64 = .ok (.goto 4, 3) := by decide +kernel
theorem dX10_areNeeds_67 : decode cX10_areNeeds 67 = .ok (.iconst 0, 1) := by decide +kernel
theorem dX10_areNeeds_68 : decode cX10_areNeeds 68 = .ok (.ireturn, 1) := by decide +kernel
theorem dX10_dealt_0 : decode cX10_dealt 0 = .ok (.aload_n 0, 1) := by decide +kernel
theorem dX10_dealt_1 : decode cX10_dealt 1 = .ok (.aload_n 0, 1) := by decide +kernel
theorem dX10_dealt_2 : decode cX10_dealt 2 = .ok (.invokevirtual 184, 3) := by decide +kernel
theorem dX10_dealt_5 : decode cX10_dealt 5 = .ok (.putfield 143, 3) := by decide +kernel
theorem dX10_dealt_8 : decode cX10_dealt 8 = .ok (.aload_n 0, 1) := by decide +kernel
theorem dX10_dealt_9 : decode cX10_dealt 9 = .ok (.getfield 143, 3) := by decide +kernel
theorem dX10_dealt_12 : decode cX10_dealt 12 = .ok (.ifCond .ne 5, 3) := by decide +kernel
theorem dX10_dealt_15 : decode cX10_dealt 15 = .ok (.iconst (-1), 1) := by decide +kernel
theorem dX10_dealt_16 : decode cX10_dealt 16 = .ok (.ireturn, 1) := by decide +kernel
theorem dX10_dealt_17 : decode cX10_dealt 17 = .ok (.aload_n 0, 1) := by decide +kernel
theorem dX10_dealt_18 : decode cX10_dealt 18 = .ok (.getfield 27, 3) := by decide +kernel
theorem dX10_dealt_21 : decode cX10_dealt 21 = .ok (.aload_n 0, 1) := by decide +kernel
theorem dX10_dealt_22 : decode cX10_dealt 22 = .ok (.getfield 140, 3) := by decide +kernel
theorem dX10_dealt_25 : decode cX10_dealt 25 = .ok (.isub, 1) := by decide +kernel
theorem dX10_dealt_26 : decode cX10_dealt 26 = .ok (.istore_n 1, 1) := by decide +kernel
theorem dX10_dealt_27 : decode cX10_dealt 27 = .ok (.iconst 0, 1) := by decide +kernel
theorem dX10_dealt_28 : decode cX10_dealt 28 = .ok (.istore_n 2, 1) := by decide +kernel
theorem dX10_dealt_29 : decode cX10_dealt 29 = .ok (.iload_n 2, 1) := by decide +kernel
theorem dX10_dealt_30 : decode cX10_dealt 30 = .ok (.aload_n 0, 1) := by decide +kernel
theorem dX10_dealt_31 : decode cX10_dealt 31 = .ok (.getfield 146, 3) := by decide +kernel
theorem dX10_dealt_34 : decode cX10_dealt 34 = .ok (.if_icmp .ge 30, 3) := by decide +kernel
theorem dX10_dealt_37 : decode cX10_dealt 37 = .ok (.aload_n 0, 1) := by decide +kernel
theorem dX10_dealt_38 : decode cX10_dealt 38 = .ok (.getfield 54, 3) := by decide +kernel
theorem dX10_dealt_41 : decode cX10_dealt 41 = .ok (.iload_n 2, 1) := by decide +kernel
theorem dX10_dealt_42 : decode cX10_dealt 42 = .ok (.aload_n 0, 1) := by decide +kernel
theorem dX10_dealt_43 : decode cX10_dealt 43 = .ok (.getfield 57, 3) := by decide +kernel
theorem dX10_dealt_46 : decode cX10_dealt 46 = .ok (.iload_n 2, 1) := by decide +kernel
theorem dX10_dealt_47 : decode cX10_dealt 47 = .ok (.iaload, 1) := by decide +kernel
theorem dX10_dealt_48 : decode cX10_dealt 48 = .ok (.iastore, 1) := by decide +kernel
theorem dX10_dealt_49 : decode cX10_dealt 49 = .ok (.iload_n 1, 1) := by decide +kernel
theorem dX10_dealt_50 : decode cX10_dealt 50 = .ok (.aload_n 0, 1) := by decide +kernel
theorem dX10_dealt_51 : decode cX10_dealt 51 = .ok (.getfield 57, 3) := by decide +kernel
theorem dX10_dealt_54 : decode cX10_dealt 54 = .ok (.iload_n 2, 1) := by decide +kernel
theorem dX10_dealt_55 : decode cX10_dealt 55 = .ok (.iaload, 1) := by decide +kernel
theorem dX10_dealt_56 : decode cX10_dealt 56 = .ok (.isub, 1) := by decide +kernel
theorem dX10_dealt_57 : decode cX10_dealt 57 = .ok (.istore_n 1, 1) := by decide +kernel
theorem dX10_dealt_58 : decode cX10_dealt 58 = .ok (.iinc 2 1, 3) := by decide +kernel
theorem dX10_dealt_61 : decode cX10_dealt 61 = .ok (.goto (-32), 3) := by decide +kernel
theorem dX10_dealt_64 : decode cX10_dealt 64 = .ok (.iconst 1, 1) := by decide +kernel
theorem dX10_dealt_65 : decode cX10_dealt 65 = .ok (.istore_n 2, 1) := by decide +kernel
theorem dX10_dealt_66 : decode cX10_dealt 66 = .ok (.iload_n 2, 1) := by decide +kernel
theorem dX10_dealt_67 : decode cX10_dealt 67 = .ok (.ifCond .eq 126, 3) := by decide +kernel
theorem dX10_dealt_70 : decode cX10_dealt 70 = .ok (.iload_n 1, 1) := by decide +kernel
theorem dX10_dealt_71 : decode cX10_dealt 71 = .ok (.aload_n 0, 1) := by decide +kernel
theorem dX10_dealt_72 : decode cX10_dealt 72 = .ok (.getfield 23, 3) := by decide +kernel
theorem dX10_dealt_75 : decode cX10_dealt 75 = .ok (.if_icmp .lt 118, 3) := by decide +kernel
theorem dX10_dealt_78 : decode cX10_dealt 78 = .ok (.iconst (-1), 1) := by decide +kernel
theorem dX10_dealt_79 : decode cX10_dealt 79 = .ok (.istore_n 3, 1) := by decide +kernel
theorem dX10_dealt_80 : decode cX10_dealt 80 = .ok (.iconst 0, 1) := by decide +kernel
theorem dX10_dealt_81 : decode cX10_dealt 81 = .ok (.istore 4, 2) := by decide +kernel
theorem dX10_dealt_83 : decode cX10_dealt 83 = .ok (.iconst 0, 1) := by decide +kernel
theorem dX10_dealt_84 : decode cX10_dealt 84 = .ok (.istore 5, 2) := by decide +kernel
theorem dX10_dealt_86 : decode cX10_dealt 86 = .ok (.iload 5, 2) := by decide +kernel
theorem dX10_dealt_88 : decode cX10_dealt 88 = .ok (.aload_n 0, 1) := by decide +kernel
theorem dX10_dealt_89 : decode cX10_dealt 89 = .ok (.getfield 146, 3) := by decide +kernel
theorem dX10_dealt_92 : decode cX10_dealt 92 = .ok (.if_icmp .ge 60, 3) := by decide +kernel
theorem dX10_dealt_95 : decode cX10_dealt 95 = .ok (.aload_n 0, 1) := by decide +kernel
theorem dX10_dealt_96 : decode cX10_dealt 96 = .ok (.iload 5, 2) := by decide +kernel
theorem dX10_dealt_98 : decode cX10_dealt 98 = .ok (.aload_n 0, 1) := by decide +kernel
theorem dX10_dealt_99 : decode cX10_dealt 99 = .ok (.getfield 54, 3) := by decide +kernel
theorem dX10_dealt_102 : decode cX10_dealt 102 = .ok (.iload 5, 2) := by decide +kernel
theorem dX10_dealt_104 : decode cX10_dealt 104 = .ok (.iaload, 1) := by decide +kernel
theorem dX10_dealt_105 : decode cX10_dealt 105 = .ok (.invokevirtual 171, 3) := by decide +kernel
theorem dX10_dealt_108 : decode cX10_dealt 108 = .ok (.aload_n 0, 1) := by decide +kernel
theorem dX10_dealt_109 : decode cX10_dealt 109 = .ok (.iload 5, 2) := by decide +kernel
theorem dX10_dealt_111 : decode cX10_dealt 111 = .ok (.aload_n 0, 1) := by decide +kernel
theorem dX10_dealt_112 : decode cX10_dealt 112 = .ok (.getfield 54, 3) := by decide +kernel
theorem dX10_dealt_115 : decode cX10_dealt 115 = .ok (.iload 5, 2) := by decide +kernel
theorem dX10_dealt_117 : decode cX10_dealt 117 = .ok (.iaload, 1) := by decide +kernel
theorem dX10_dealt_118 : decode cX10_dealt 118 = .ok (.aload_n 0, 1) := by decide +kernel
theorem dX10_dealt_119 : decode cX10_dealt 119 = .ok (.getfield 23, 3) := by decide +kernel
theorem dX10_dealt_122 : decode cX10_dealt 122 = .ok (.iadd, 1) := by decide +kernel
theorem dX10_dealt_123 : decode cX10_dealt 123 = .ok (.invokevirtual 171, 3) := by decide +kernel
theorem dX10_dealt_126 : decode cX10_dealt 126 = .ok (.isub, 1) := by decide +kernel
theorem dX10_dealt_127 : decode cX10_dealt 127 = .ok (.istore 6, 2) := by decide +kernel
theorem dX10_dealt_129 : decode cX10_dealt 129 = .ok (.iload 6, 2) := by decide +kernel
theorem dX10_dealt_131 : decode cX10_dealt 131 = .ok (.iload 4, 2) := by decide +kernel
theorem dX10_dealt_133 : decode cX10_dealt 133 = .ok (.if_icmp .gt 6, 3) := by decide +kernel
theorem dX10_dealt_136 : decode cX10_dealt 136 = .ok (.goto 10, 3) := by decide +kernel
theorem dX10_dealt_139 : decode cX10_dealt 139 = .ok (.iload 6, 2) := by decide +kernel
theorem dX10_dealt_141 : decode cX10_dealt 141 = .ok (.istore 4, 2) := by decide +kernel
theorem dX10_dealt_143 : decode cX10_dealt 143 = .ok (.iload 5, 2) := by decide +kernel
theorem dX10_dealt_145 : decode cX10_dealt 145 = .ok (.istore_n 3, 1) := by decide +kernel
theorem dX10_dealt_146 : decode cX10_dealt 146 = .ok (.iinc 5 1, 3) := by decide +kernel
theorem dX10_dealt_149 : decode cX10_dealt 149 = .ok (.goto (-63), 3) := by decide +kernel
theorem dX10_dealt_152 : decode cX10_dealt 152 = .ok (.iload_n 3, 1) := by decide +kernel
theorem dX10_dealt_153 : decode cX10_dealt 153 = .ok (.iconst (-1), 1) := by decide +kernel
theorem dX10_dealt_154 : decode cX10_dealt 154 = .ok (.if_icmp .eq 7, 3) := by decide +kernel
theorem dX10_dealt_157 : decode cX10_dealt 157 = .ok (.iconst 1, 1) := by decide +kernel
theorem dX10_dealt_158 : decode cX10_dealt 158 = .ok (.goto 4, 3) := by decide +kernel
theorem dX10_dealt_161 : decode cX10_dealt 161 = .ok (.iconst 0, 1) := by decide +kernel
theorem dX10_dealt_162 : decode cX10_dealt 162 = .ok (.istore_n 2, 1) := by decide +kernel
theorem dX10_dealt_163 : decode cX10_dealt 163 = .ok (.iload_n 2, 1) := by decide +kernel
theorem dX10_dealt_164 : decode cX10_dealt 164 = .ok (.ifCond .ne 6, 3) := by decide +kernel
theorem dX10_dealt_167 : decode cX10_dealt 167 = .ok (.goto (-101), 3) := by decide +kernel
theorem dX10_dealt_170 : decode cX10_dealt 170 = .ok (.aload_n 0, 1) := by decide +kernel
theorem dX10_dealt_171 : decode cX10_dealt 171 = .ok (.getfield 54, 3) := by decide +kernel
theorem dX10_dealt_174 : decode cX10_dealt 174 = .ok (.iload_n 3, 1) := by decide +kernel
theorem dX10_dealt_175 : decode cX10_dealt 175 = .ok (.dup2, 1) := by decide +kernel
theorem dX10_dealt_176 : decode cX10_dealt 176 = .ok (.iaload, 1) := by decide +kernel
theorem dX10_dealt_177 : decode cX10_dealt 177 = .ok (.aload_n 0, 1) := by decide +kernel
theorem dX10_dealt_178 : decode cX10_dealt 178 = .ok (.getfield 23, 3) := by decide +kernel
theorem dX10_dealt_181 : decode cX10_dealt 181 = .ok (.iadd, 1) := by decide +kernel
theorem dX10_dealt_182 : decode cX10_dealt 182 = .ok (.iastore, 1) := by decide +kernel
theorem dX10_dealt_183 : decode cX10_dealt 183 = .ok (.iload_n 1, 1) := by decide +kernel
theorem dX10_dealt_184 : decode cX10_dealt 184 = .ok (.aload_n 0, 1) := by decide +kernel
theorem dX10_dealt_185 : decode cX10_dealt 185 = .ok (.getfield 23, 3) := by decide +kernel
theorem dX10_dealt_188 : decode cX10_dealt 188 = .ok (.isub, 1) := by decide +kernel
theorem dX10_dealt_189 : decode cX10_dealt 189 = .ok (.istore_n 1, 1) := by decide +kernel
theorem dX10_dealt_190 : decode cX10_dealt 190 = .ok (.goto (-124), 3) := by decide +kernel
theorem dX10_dealt_193 : decode cX10_dealt 193 = .ok (.aload_n 0, 1) := by decide +kernel
theorem dX10_dealt_194 : decode cX10_dealt 194 = .ok (.invokevirtual 188, 3) := by decide +kernel
theorem dX10_dealt_197 : decode cX10_dealt 197 = .ok (.ireturn, 1) := by decide +kernel
theorem dX10_sum_0 : decode cX10_sum 0 = .ok (.iconst 0, 1) := by decide +kernel
theorem dX10_sum_1 : decode cX10_sum 1 = .ok (.istore_n 1, 1) := by decide +kernel
theorem dX10_sum_2 : decode cX10_sum 2 = .ok (.iconst 0, 1) := by decide +kernel
theorem dX10_sum_3 : decode cX10_sum 3 = .ok (.istore_n 2, 1) := by decide +kernel
theorem dX10_sum_4 : decode cX10_sum 4 = .ok (.iload_n 2, 1) := by decide +kernel
theorem dX10_sum_5 : decode cX10_sum 5 = .ok (.aload_n 0, 1) := by decide +kernel
theorem dX10_sum_6 : decode cX10_sum 6 = .ok (.getfield 146, 3) := by decide +kernel
theorem dX10_sum_9 : decode cX10_sum 9 = .ok (.if_icmp .ge 23, 3) := by decide +kernel
theorem dX10_sum_12 : decode cX10_sum 12 = .ok (.iload_n 1, 1) := by decide +kernel
theorem dX10_sum_13 : decode cX10_sum 13 = .ok (.aload_n 0, 1) := by decide +kernel
theorem dX10_sum_14 : decode cX10_sum 14 = .ok (.iload_n 2, 1) := by decide +kernel
theorem dX10_sum_15 : decode cX10_sum 15 = .ok (.aload_n 0, 1) := by decide +kernel
theorem dX10_sum_16 : decode cX10_sum 16 = .ok (.getfield 54, 3) := by decide +kernel
theorem dX10_sum_19 : decode cX10_sum 19 = .ok (.iload_n 2, 1) := by decide +kernel
theorem dX10_sum_20 : decode cX10_sum 20 = .ok (.iaload, 1) := by decide +kernel
theorem dX10_sum_21 : decode cX10_sum 21 = .ok (.invokevirtual 171, 3) := by decide +kernel
theorem dX10_sum_24 : decode cX10_sum 24 = .ok (.iadd, 1) := by decide +kernel
theorem dX10_sum_25 : decode cX10_sum 25 = .ok (.istore_n 1, 1) := by decide +kernel
theorem dX10_sum_26 : decode cX10_sum 26 = .ok (.iinc 2 1, 3) := by decide +kernel
theorem dX10_sum_29 : decode cX10_sum 29 = .ok (.goto (-25), 3) := by decide +kernel
theorem dX10_sum_32 : decode cX10_sum 32 = .ok (.iload_n 1, 1) := by decide +kernel
theorem dX10_sum_33 : decode cX10_sum 33 = .ok (.ireturn, 1) := by decide +kernel
theorem dX10_deal_0 : decode cX10_deal 0 = .ok (.aload_n 0, 1) := by decide +kernel
theorem dX10_deal_1 : decode cX10_deal 1 = .ok (.iconst 0, 1) := by decide +kernel
theorem dX10_deal_2 : decode cX10_deal 2 = .ok (.putfield 121, 3) := by decide +kernel
theorem dX10_deal_5 : decode cX10_deal 5 = .ok (.aload_n 0, 1) := by decide +kernel
theorem dX10_deal_6 : decode cX10_deal 6 = .ok (.invokevirtual 192, 3) := by decide +kernel
theorem dX10_deal_9 : decode cX10_deal 9 = .ok (.ireturn, 1) := by decide +kernel
theorem dX10_best_0 : decode cX10_best 0 = .ok (.aload_n 0, 1) := by decide +kernel
theorem dX10_best_1 : decode cX10_best 1 = .ok (.iconst 0, 1) := by decide +kernel
theorem dX10_best_2 : decode cX10_best 2 = .ok (.putfield 121, 3) := by decide +kernel
theorem dX10_best_5 : decode cX10_best 5 = .ok (.aload_n 0, 1) := by decide +kernel
theorem dX10_best_6 : decode cX10_best 6 = .ok (.aload_n 0, 1) := by decide +kernel
theorem dX10_best_7 : decode cX10_best 7 = .ok (.invokevirtual 184, 3) := by decide +kernel
theorem dX10_best_10 : decode cX10_best 10 = .ok (.putfield 143, 3) := by decide +kernel
theorem dX10_best_13 : decode cX10_best 13 = .ok (.aload_n 0, 1) := by decide +kernel
theorem dX10_best_14 : decode cX10_best 14 = .ok (.getfield 143, 3) := by decide +kernel
theorem dX10_best_17 : decode cX10_best 17 = .ok (.ifCond .ne 5, 3) := by decide +kernel
theorem dX10_best_20 : decode cX10_best 20 = .ok (.iconst (-1), 1) := by decide +kernel
theorem dX10_best_21 : decode cX10_best 21 = .ok (.ireturn, 1) := by decide +kernel
theorem dX10_best_22 : decode cX10_best 22 = .ok (.aload_n 0, 1) := by decide +kernel
theorem dX10_best_23 : decode cX10_best 23 = .ok (.getfield 27, 3) := by decide +kernel
theorem dX10_best_26 : decode cX10_best 26 = .ok (.aload_n 0, 1) := by decide +kernel
theorem dX10_best_27 : decode cX10_best 27 = .ok (.getfield 140, 3) := by decide +kernel
theorem dX10_best_30 : decode cX10_best 30 = .ok (.isub, 1) := by decide +kernel
theorem dX10_best_31 : decode cX10_best 31 = .ok (.aload_n 0, 1) := by decide +kernel
theorem dX10_best_32 : decode cX10_best 32 = .ok (.getfield 23, 3) := by decide +kernel
theorem dX10_best_35 : decode cX10_best 35 = .ok (.idiv, 1) := by decide +kernel
theorem dX10_best_36 : decode cX10_best 36 = .ok (.istore_n 1, 1) := by decide +kernel
theorem dX10_best_37 : decode cX10_best 37 = .ok (.ldc2_w 195, 3) := by decide +kernel
theorem dX10_best_40 : decode cX10_best 40 = .ok (.lstore_n 2, 1) := by decide +kernel
theorem dX10_best_41 : decode cX10_best 41 = .ok (.iconst 0, 1) := by decide +kernel
theorem dX10_best_42 : decode cX10_best 42 = .ok (.istore 4, 2) := by decide +kernel
theorem dX10_best_44 : decode cX10_best 44 = .ok (.iload 4, 2) := by decide +kernel
theorem dX10_best_46 : decode cX10_best 46 = .ok (.aload_n 0, 1) := by decide +kernel
theorem dX10_best_47 : decode cX10_best 47 = .ok (.getfield 146, 3) := by decide +kernel
theorem dX10_best_50 : decode cX10_best 50 = .ok (.if_icmp .ge 71, 3) := by decide +kernel
theorem dX10_best_53 : decode cX10_best 53 = .ok (.iconst 0, 1) := by decide +kernel
theorem dX10_best_54 : decode cX10_best 54 = .ok (.istore 5, 2) := by decide +kernel
theorem dX10_best_56 : decode cX10_best 56 = .ok (.iload 5, 2) := by decide +kernel
theorem dX10_best_58 : decode cX10_best 58 = .ok (.iload_n 1, 1) := by decide +kernel
theorem dX10_best_59 : decode cX10_best 59 = .ok (.if_icmp .gt 56, 3) := by decide +kernel
theorem dX10_best_62 : decode cX10_best 62 = .ok (.aload_n 0, 1) := by decide +kernel
theorem dX10_best_63 : decode cX10_best 63 = .ok (.getfield 60, 3) := by decide +kernel
theorem dX10_best_66 : decode cX10_best 66 = .ok (.bipush 65, 2) := by decide +kernel
theorem dX10_best_68 : decode cX10_best 68 = .ok (.iload 4, 2) := by decide +kernel
theorem dX10_best_70 : decode cX10_best 70 = .ok (.imul, 1) := by decide +kernel
theorem dX10_best_71 : decode cX10_best 71 = .ok (.iload 5, 2) := by decide +kernel
theorem dX10_best_73 : decode cX10_best 73 = .ok (.iadd, 1) := by decide +kernel
theorem dX10_best_74 : decode cX10_best 74 = .ok (.iload 5, 2) := by decide +kernel
theorem dX10_best_76 : decode cX10_best 76 = .ok (.aload_n 0, 1) := by decide +kernel
theorem dX10_best_77 : decode cX10_best 77 = .ok (.getfield 23, 3) := by decide +kernel
theorem dX10_best_80 : decode cX10_best 80 = .ok (.imul, 1) := by decide +kernel
theorem dX10_best_81 : decode cX10_best 81 = .ok (.aload_n 0, 1) := by decide +kernel
theorem dX10_best_82 : decode cX10_best 82 = .ok (.getfield 57, 3) := by decide +kernel
theorem dX10_best_85 : decode cX10_best 85 = .ok (.iload 4, 2) := by decide +kernel
theorem dX10_best_87 : decode cX10_best 87 = .ok (.iaload, 1) := by decide +kernel
theorem dX10_best_88 : decode cX10_best 88 = .ok (.if_icmp .ge 7, 3) := by decide +kernel
theorem dX10_best_91 : decode cX10_best 91 = .ok (.iconst (-1), 1) := by decide +kernel
theorem dX10_best_92 : decode cX10_best 92 = .ok (.goto 16, 3) := by decide +kernel
theorem dX10_best_95 : decode cX10_best 95 = .ok (.aload_n 0, 1) := by decide +kernel
theorem dX10_best_96 : decode cX10_best 96 = .ok (.iload 4, 2) := by decide +kernel
theorem dX10_best_98 : decode cX10_best 98 = .ok (.iload 5, 2) := by decide +kernel
theorem dX10_best_100 : decode cX10_best 100 = .ok (.aload_n 0, 1) := by decide +kernel
theorem dX10_best_101 : decode cX10_best 101 = .ok (.getfield 23, 3) := by decide +kernel
theorem dX10_best_104 : decode cX10_best 104 = .ok (.imul, 1) := by decide +kernel
theorem dX10_best_105 : decode cX10_best 105 = .ok (.invokevirtual 171, 3) := by decide +kernel
theorem dX10_best_108 : decode cX10_best 108 = .ok (.iastore, 1) := by decide +kernel
theorem dX10_best_109 : decode cX10_best 109 = .ok (.iinc 5 1, 3) := by decide +kernel
theorem dX10_best_112 : decode cX10_best 112 = .ok (.goto (-56), 3) := by decide +kernel
theorem dX10_best_115 : decode cX10_best 115 = .ok (.iinc 4 1, 3) := by decide +kernel
theorem dX10_best_118 : decode cX10_best 118 = .ok (.goto (-74), 3) := by decide +kernel
theorem dX10_best_121 : decode cX10_best 121 = .ok (.iconst 0, 1) := by decide +kernel
theorem dX10_best_122 : decode cX10_best 122 = .ok (.istore 4, 2) := by decide +kernel
theorem dX10_best_124 : decode cX10_best 124 = .ok (.iload 4, 2) := by decide +kernel
theorem dX10_best_126 : decode cX10_best 126 = .ok (.iload_n 1, 1) := by decide +kernel
theorem dX10_best_127 : decode cX10_best 127 = .ok (.if_icmp .gt 25, 3) := by decide +kernel
theorem dX10_best_130 : decode cX10_best 130 = .ok (.aload_n 0, 1) := by decide +kernel
theorem dX10_best_131 : decode cX10_best 131 = .ok (.getfield 63, 3) := by decide +kernel
theorem dX10_best_134 : decode cX10_best 134 = .ok (.bipush 65, 2) := by decide +kernel
theorem dX10_best_136 : decode cX10_best 136 = .ok (.aload_n 0, 1) := by decide +kernel
theorem dX10_best_137 : decode cX10_best 137 = .ok (.getfield 146, 3) := by decide +kernel
theorem dX10_best_140 : decode cX10_best 140 = .ok (.imul, 1) := by decide +kernel
theorem dX10_best_141 : decode cX10_best 141 = .ok (.iload 4, 2) := by decide +kernel
theorem dX10_best_143 : decode cX10_best 143 = .ok (.iadd, 1) := by decide +kernel
theorem dX10_best_144 : decode cX10_best 144 = .ok (.lconst 0, 1) := by decide +kernel
theorem dX10_best_145 : decode cX10_best 145 = .ok (.lastore, 1) := by decide +kernel
theorem dX10_best_146 : decode cX10_best 146 = .ok (.iinc 4 1, 3) := by decide +kernel
theorem dX10_best_149 : decode cX10_best 149 = .ok (.goto (-25), 3) := by decide +kernel
theorem dX10_best_152 : decode cX10_best 152 = .ok (.aload_n 0, 1) := by decide +kernel
theorem dX10_best_153 : decode cX10_best 153 = .ok (.getfield 146, 3) := by decide +kernel
theorem dX10_best_156 : decode cX10_best 156 = .ok (.iconst 1, 1) := by decide +kernel
theorem dX10_best_157 : decode cX10_best 157 = .ok (.isub, 1) := by decide +kernel
theorem dX10_best_158 : decode cX10_best 158 = .ok (.istore 4, 2) := by decide +kernel
theorem dX10_best_160 : decode cX10_best 160 = .ok (.iload 4, 2) := by decide +kernel
theorem dX10_best_162 : decode cX10_best 162 = .ok (.ifCond .lt 115, 3) := by decide +kernel
theorem dX10_best_165 : decode cX10_best 165 = .ok (.iconst 0, 1) := by decide +kernel
theorem dX10_best_166 : decode cX10_best 166 = .ok (.istore 5, 2) := by decide +kernel
theorem dX10_best_168 : decode cX10_best 168 = .ok (.iload 5, 2) := by decide +kernel
theorem dX10_best_170 : decode cX10_best 170 = .ok (.iload_n 1, 1) := by decide +kernel
theorem dX10_best_171 : decode cX10_best 171 = .ok (.if_icmp .gt 100, 3) := by decide +kernel
theorem dX10_best_174 : decode cX10_best 174 = .ok (.lload_n 2, 1) := by decide +kernel
theorem dX10_best_175 : decode cX10_best 175 = .ok (.lstore 6, 2) := by decide +kernel
theorem dX10_best_177 : decode cX10_best 177 = .ok (.iconst 0, 1) := by decide +kernel
theorem dX10_best_178 : decode cX10_best 178 = .ok (.istore 8, 2) := by decide +kernel
theorem dX10_best_180 : decode cX10_best 180 = .ok (.iload 8, 2) := by decide +kernel
theorem dX10_best_182 : decode cX10_best 182 = .ok (.iload 5, 2) := by decide +kernel
theorem dX10_best_184 : decode cX10_best 184 = .ok (.if_icmp .gt 66, 3) := by decide +kernel
theorem dX10_best_187 : decode cX10_best 187 = .ok (.aload_n 0, 1) := by decide +kernel
theorem dX10_best_188 : decode cX10_best 188 = .ok (.getfield 60, 3) := by decide +kernel
theorem dX10_best_191 : decode cX10_best 191 = .ok (.bipush 65, 2) := by decide +kernel
theorem dX10_best_193 : decode cX10_best 193 = .ok (.iload 4, 2) := by decide +kernel
theorem dX10_best_195 : decode cX10_best 195 = .ok (.imul, 1) := by decide +kernel
theorem dX10_best_196 : decode cX10_best 196 = .ok (.iload 8, 2) := by decide +kernel
theorem dX10_best_198 : decode cX10_best 198 = .ok (.iadd, 1) := by decide +kernel
theorem dX10_best_199 : decode cX10_best 199 = .ok (.iaload, 1) := by decide +kernel
theorem dX10_best_200 : decode cX10_best 200 = .ok (.iconst (-1), 1) := by decide +kernel
theorem dX10_best_201 : decode cX10_best 201 = .ok (.if_icmp .eq 43, 3) := by decide +kernel
theorem dX10_best_204 : decode cX10_best 204 = .ok (.lload 6, 2) := by decide +kernel
theorem dX10_best_206 : decode cX10_best 206 = .ok (.aload_n 0, 1) := by decide +kernel
theorem dX10_best_207 : decode cX10_best 207 = .ok (.getfield 60, 3) := by decide +kernel
theorem dX10_best_210 : decode cX10_best 210 = .ok (.bipush 65, 2) := by decide +kernel
theorem dX10_best_212 : decode cX10_best 212 = .ok (.iload 4, 2) := by decide +kernel
theorem dX10_best_214 : decode cX10_best 214 = .ok (.imul, 1) := by decide +kernel
theorem dX10_best_215 : decode cX10_best 215 = .ok (.iload 8, 2) := by decide +kernel
theorem dX10_best_217 : decode cX10_best 217 = .ok (.iadd, 1) := by decide +kernel
theorem dX10_best_218 : decode cX10_best 218 = .ok (.iaload, 1) := by decide +kernel
theorem dX10_best_219 : decode cX10_best 219 = .ok (.i2l, 1) := by decide +kernel
theorem dX10_best_220 : decode cX10_best 220 = .ok (.aload_n 0, 1) := by decide +kernel
theorem dX10_best_221 : decode cX10_best 221 = .ok (.getfield 63, 3) := by decide +kernel
theorem dX10_best_224 : decode cX10_best 224 = .ok (.bipush 65, 2) := by decide +kernel
theorem dX10_best_226 : decode cX10_best 226 = .ok (.iload 4, 2) := by decide +kernel
theorem dX10_best_228 : decode cX10_best 228 = .ok (.iconst 1, 1) := by decide +kernel
theorem dX10_best_229 : decode cX10_best 229 = .ok (.iadd, 1) := by decide +kernel
theorem dX10_best_230 : decode cX10_best 230 = .ok (.imul, 1) := by decide +kernel
theorem dX10_best_231 : decode cX10_best 231 = .ok (.iload 5, 2) := by decide +kernel
theorem dX10_best_233 : decode cX10_best 233 = .ok (.iadd, 1) := by decide +kernel
theorem dX10_best_234 : decode cX10_best 234 = .ok (.iload 8, 2) := by decide +kernel
theorem dX10_best_236 : decode cX10_best 236 = .ok (.isub, 1) := by decide +kernel
theorem dX10_best_237 : decode cX10_best 237 = .ok (.laload, 1) := by decide +kernel
theorem dX10_best_238 : decode cX10_best 238 = .ok (.ladd, 1) := by decide +kernel
theorem dX10_best_239 : decode cX10_best 239 = .ok (.invokestatic 197, 3) := by decide +kernel
theorem dX10_best_242 : decode cX10_best 242 = .ok (.lstore 6, 2) := by decide +kernel
theorem dX10_best_244 : decode cX10_best 244 = .ok (.iinc 8 1, 3) := by decide +kernel
theorem dX10_best_247 : decode cX10_best 247 = .ok (.goto (-67), 3) := by decide +kernel
theorem dX10_best_250 : decode cX10_best 250 = .ok (.aload_n 0, 1) := by decide +kernel
theorem dX10_best_251 : decode cX10_best 251 = .ok (.getfield 63, 3) := by decide +kernel
theorem dX10_best_254 : decode cX10_best 254 = .ok (.bipush 65, 2) := by decide +kernel
theorem dX10_best_256 : decode cX10_best 256 = .ok (.iload 4, 2) := by decide +kernel
theorem dX10_best_258 : decode cX10_best 258 = .ok (.imul, 1) := by decide +kernel
theorem dX10_best_259 : decode cX10_best 259 = .ok (.iload 5, 2) := by decide +kernel
theorem dX10_best_261 : decode cX10_best 261 = .ok (.iadd, 1) := by decide +kernel
theorem dX10_best_262 : decode cX10_best 262 = .ok (.lload 6, 2) := by decide +kernel
theorem dX10_best_264 : decode cX10_best 264 = .ok (.lastore, 1) := by decide +kernel
theorem dX10_best_265 : decode cX10_best 265 = .ok (.iinc 5 1, 3) := by decide +kernel
theorem dX10_best_268 : decode cX10_best 268 = .ok (.goto (-100), 3) := by decide +kernel
theorem dX10_best_271 : decode cX10_best 271 = .ok (.iinc 4 (-1), 3) := by decide +kernel
theorem dX10_best_274 : decode cX10_best 274 = .ok (.goto (-114), 3) := by decide +kernel
theorem dX10_best_277 : decode cX10_best 277 = .ok (.iload_n 1, 1) := by decide +kernel
theorem dX10_best_278 : decode cX10_best 278 = .ok (.istore 4, 2) := by decide +kernel
theorem dX10_best_280 : decode cX10_best 280 = .ok (.iconst 0, 1) := by decide +kernel
theorem dX10_best_281 : decode cX10_best 281 = .ok (.istore 5, 2) := by decide +kernel
theorem dX10_best_283 : decode cX10_best 283 = .ok (.iload 5, 2) := by decide +kernel
theorem dX10_best_285 : decode cX10_best 285 = .ok (.aload_n 0, 1) := by decide +kernel
theorem dX10_best_286 : decode cX10_best 286 = .ok (.getfield 146, 3) := by decide +kernel
theorem dX10_best_289 : decode cX10_best 289 = .ok (.if_icmp .ge 106, 3) := by decide +kernel
theorem dX10_best_292 : decode cX10_best 292 = .ok (.iconst 0, 1) := by decide +kernel
theorem dX10_best_293 : decode cX10_best 293 = .ok (.istore 6, 2) := by decide +kernel
theorem dX10_best_295 : decode cX10_best 295 = .ok (.aload_n 0, 1) := by decide +kernel
theorem dX10_best_296 : decode cX10_best 296 = .ok (.getfield 60, 3) := by decide +kernel
theorem dX10_best_299 : decode cX10_best 299 = .ok (.bipush 65, 2) := by decide +kernel
theorem dX10_best_301 : decode cX10_best 301 = .ok (.iload 5, 2) := by decide +kernel
theorem dX10_best_303 : decode cX10_best 303 = .ok (.imul, 1) := by decide +kernel
theorem dX10_best_304 : decode cX10_best 304 = .ok (.iload 6, 2) := by decide +kernel
theorem dX10_best_306 : decode cX10_best 306 = .ok (.iadd, 1) := by decide +kernel
theorem dX10_best_307 : decode cX10_best 307 = .ok (.iaload, 1) := by decide +kernel
theorem dX10_best_308 : decode cX10_best 308 = .ok (.iconst (-1), 1) := by decide +kernel
theorem dX10_best_309 : decode cX10_best 309 = .ok (.if_icmp .eq 53, 3) := by decide +kernel
theorem dX10_best_312 : decode cX10_best 312 = .ok (.aload_n 0, 1) := by decide +kernel
theorem dX10_best_313 : decode cX10_best 313 = .ok (.getfield 60, 3) := by decide +kernel
theorem dX10_best_316 : decode cX10_best 316 = .ok (.bipush 65, 2) := by decide +kernel
theorem dX10_best_318 : decode cX10_best 318 = .ok (.iload 5, 2) := by decide +kernel
theorem dX10_best_320 : decode cX10_best 320 = .ok (.imul, 1) := by decide +kernel
theorem dX10_best_321 : decode cX10_best 321 = .ok (.iload 6, 2) := by decide +kernel
theorem dX10_best_323 : decode cX10_best 323 = .ok (.iadd, 1) := by decide +kernel
theorem dX10_best_324 : decode cX10_best 324 = .ok (.iaload, 1) := by decide +kernel
theorem dX10_best_325 : decode cX10_best 325 = .ok (.i2l, 1) := by decide +kernel
theorem dX10_best_326 : decode cX10_best 326 = .ok (.aload_n 0, 1) := by decide +kernel
theorem dX10_best_327 : decode cX10_best 327 = .ok (.getfield 63, 3) := by decide +kernel
theorem dX10_best_330 : decode cX10_best 330 = .ok (.bipush 65, 2) := by decide +kernel
theorem dX10_best_332 : decode cX10_best 332 = .ok (.iload 5, 2) := by decide +kernel
theorem dX10_best_334 : decode cX10_best 334 = .ok (.iconst 1, 1) := by decide +kernel
theorem dX10_best_335 : decode cX10_best 335 = .ok (.iadd, 1) := by decide +kernel
theorem dX10_best_336 : decode cX10_best 336 = .ok (.imul, 1) := by decide +kernel
theorem dX10_best_337 : decode cX10_best 337 = .ok (.iload 4, 2) := by decide +kernel
theorem dX10_best_339 : decode cX10_best 339 = .ok (.iadd, 1) := by decide +kernel
theorem dX10_best_340 : decode cX10_best 340 = .ok (.iload 6, 2) := by decide +kernel
theorem dX10_best_342 : decode cX10_best 342 = .ok (.isub, 1) := by decide +kernel
theorem dX10_best_343 : decode cX10_best 343 = .ok (.laload, 1) := by decide +kernel
theorem dX10_best_344 : decode cX10_best 344 = .ok (.ladd, 1) := by decide +kernel
theorem dX10_best_345 : decode cX10_best 345 = .ok (.aload_n 0, 1) := by decide +kernel
theorem dX10_best_346 : decode cX10_best 346 = .ok (.getfield 63, 3) := by decide +kernel
theorem dX10_best_349 : decode cX10_best 349 = .ok (.bipush 65, 2) := by decide +kernel
theorem dX10_best_351 : decode cX10_best 351 = .ok (.iload 5, 2) := by decide +kernel
theorem dX10_best_353 : decode cX10_best 353 = .ok (.imul, 1) := by decide +kernel
theorem dX10_best_354 : decode cX10_best 354 = .ok (.iload 4, 2) := by decide +kernel
theorem dX10_best_356 : decode cX10_best 356 = .ok (.iadd, 1) := by decide +kernel
theorem dX10_best_357 : decode cX10_best 357 = .ok (.laload, 1) := by decide +kernel
theorem dX10_best_358 : decode cX10_best 358 = .ok (.lcmp, 1) := by decide +kernel
theorem dX10_best_359 : decode cX10_best 359 = .ok (.ifCond .eq 9, 3) := by decide +kernel
theorem dX10_best_362 : decode cX10_best 362 = .ok (.iinc 6 1, 3) := by decide +kernel
theorem dX10_best_365 : decode cX10_best 365 = .ok (.goto (-70), 3) := by decide +kernel
theorem dX10_best_368 : decode cX10_best 368 = .ok (.aload_n 0, 1) := by decide +kernel
theorem dX10_best_369 : decode cX10_best 369 = .ok (.getfield 54, 3) := by decide +kernel
theorem dX10_best_372 : decode cX10_best 372 = .ok (.iload 5, 2) := by decide +kernel
theorem dX10_best_374 : decode cX10_best 374 = .ok (.iload 6, 2) := by decide +kernel
theorem dX10_best_376 : decode cX10_best 376 = .ok (.aload_n 0, 1) := by decide +kernel
theorem dX10_best_377 : decode cX10_best 377 = .ok (.getfield 23, 3) := by decide +kernel
theorem dX10_best_380 : decode cX10_best 380 = .ok (.imul, 1) := by decide +kernel
theorem dX10_best_381 : decode cX10_best 381 = .ok (.iastore, 1) := by decide +kernel
theorem dX10_best_382 : decode cX10_best 382 = .ok (.iload 4, 2) := by decide +kernel
theorem dX10_best_384 : decode cX10_best 384 = .ok (.iload 6, 2) := by decide +kernel
theorem dX10_best_386 : decode cX10_best 386 = .ok (.isub, 1) := by decide +kernel
theorem dX10_best_387 : decode cX10_best 387 = .ok (.istore 4, 2) := by decide +kernel
theorem dX10_best_389 : decode cX10_best 389 = .ok (.iinc 5 1, 3) := by decide +kernel
theorem dX10_best_392 : decode cX10_best 392 = .ok (.goto (-109), 3) := by decide +kernel
theorem dX10_best_395 : decode cX10_best 395 = .ok (.aload_n 0, 1) := by decide +kernel
theorem dX10_best_396 : decode cX10_best 396 = .ok (.invokevirtual 188, 3) := by decide +kernel
theorem dX10_best_399 : decode cX10_best 399 = .ok (.ireturn, 1) := by decide +kernel
theorem dX10_share_0 : decode cX10_share 0 = .ok (.aload_n 0, 1) := by decide +kernel
theorem dX10_share_1 : decode cX10_share 1 = .ok (.iconst 0, 1) := by decide +kernel
theorem dX10_share_2 : decode cX10_share 2 = .ok (.putfield 121, 3) := by decide +kernel
theorem dX10_share_5 : decode cX10_share 5 = .ok (.aload_n 0, 1) := by decide +kernel
theorem dX10_share_6 : decode cX10_share 6 = .ok (.getfield 143, 3) := by decide +kernel
theorem dX10_share_9 : decode cX10_share 9 = .ok (.ifCond .eq 20, 3) := by decide +kernel
theorem dX10_share_12 : decode cX10_share 12 = .ok (.aload_n 0, 1) := by decide +kernel
theorem dX10_share_13 : decode cX10_share 13 = .ok (.iload_n 1, 1) := by decide +kernel
theorem dX10_share_14 : decode cX10_share 14 = .ok (.invokevirtual 168, 3) := by decide +kernel
theorem dX10_share_17 : decode cX10_share 17 = .ok (.ifCond .eq 12, 3) := by decide +kernel
theorem dX10_share_20 : decode cX10_share 20 = .ok (.aload_n 0, 1) := by decide +kernel
theorem dX10_share_21 : decode cX10_share 21 = .ok (.getfield 54, 3) := by decide +kernel
theorem dX10_share_24 : decode cX10_share 24 = .ok (.iload_n 1, 1) := by decide +kernel
theorem dX10_share_25 : decode cX10_share 25 = .ok (.iaload, 1) := by decide +kernel
theorem dX10_share_26 : decode cX10_share 26 = .ok (.goto 4, 3) := by decide +kernel
theorem dX10_share_29 : decode cX10_share 29 = .ok (.iconst (-1), 1) := by decide +kernel
theorem dX10_share_30 : decode cX10_share 30 = .ok (.ireturn, 1) := by decide +kernel
theorem dX10_begin_0 : decode cX10_begin 0 = .ok (.aload_n 0, 1) := by decide +kernel
theorem dX10_begin_1 : decode cX10_begin 1 = .ok (.iconst 0, 1) := by decide +kernel
theorem dX10_begin_2 : decode cX10_begin 2 = .ok (.putfield 121, 3) := by decide +kernel
theorem dX10_begin_5 : decode cX10_begin 5 = .ok (.aload_n 0, 1) := by decide +kernel
theorem dX10_begin_6 : decode cX10_begin 6 = .ok (.invokevirtual 192, 3) := by decide +kernel
theorem dX10_begin_9 : decode cX10_begin 9 = .ok (.istore_n 1, 1) := by decide +kernel
theorem dX10_begin_10 : decode cX10_begin 10 = .ok (.aload_n 0, 1) := by decide +kernel
theorem dX10_begin_11 : decode cX10_begin 11 = .ok (.getfield 143, 3) := by decide +kernel
theorem dX10_begin_14 : decode cX10_begin 14 = .ok (.ifCond .eq 10, 3) := by decide +kernel
theorem dX10_begin_17 : decode cX10_begin 17 = .ok (.aload_n 0, 1) := by decide +kernel
theorem dX10_begin_18 : decode cX10_begin 18 = .ok (.getfield 146, 3) := by decide +kernel
theorem dX10_begin_21 : decode cX10_begin 21 = .ok (.ifCond .ne 5, 3) := by decide +kernel
theorem dX10_begin_24 : decode cX10_begin 24 = .ok (.iconst 0, 1) := by decide +kernel
theorem dX10_begin_25 : decode cX10_begin 25 = .ok (.ireturn, 1) := by decide +kernel
theorem dX10_begin_26 : decode cX10_begin 26 = .ok (.aload_n 0, 1) := by decide +kernel
theorem dX10_begin_27 : decode cX10_begin 27 = .ok (.iconst 1, 1) := by decide +kernel
theorem dX10_begin_28 : decode cX10_begin 28 = .ok (.putfield 136, 3) := by decide +kernel
theorem dX10_begin_31 : decode cX10_begin 31 = .ok (.aload_n 0, 1) := by decide +kernel
theorem dX10_begin_32 : decode cX10_begin 32 = .ok (.aload_n 0, 1) := by decide +kernel
theorem dX10_begin_33 : decode cX10_begin 33 = .ok (.getfield 146, 3) := by decide +kernel
theorem dX10_begin_36 : decode cX10_begin 36 = .ok (.putfield 157, 3) := by decide +kernel
theorem dX10_begin_39 : decode cX10_begin 39 = .ok (.aload_n 0, 1) := by decide +kernel
theorem dX10_begin_40 : decode cX10_begin 40 = .ok (.iconst 0, 1) := by decide +kernel
theorem dX10_begin_41 : decode cX10_begin 41 = .ok (.putfield 203, 3) := by decide +kernel
theorem dX10_begin_44 : decode cX10_begin 44 = .ok (.aload_n 0, 1) := by decide +kernel
theorem dX10_begin_45 : decode cX10_begin 45 = .ok (.aload_n 0, 1) := by decide +kernel
theorem dX10_begin_46 : decode cX10_begin 46 = .ok (.getfield 27, 3) := by decide +kernel
theorem dX10_begin_49 : decode cX10_begin 49 = .ok (.putfield 206, 3) := by decide +kernel
theorem dX10_begin_52 : decode cX10_begin 52 = .ok (.aload_n 0, 1) := by decide +kernel
theorem dX10_begin_53 : decode cX10_begin 53 = .ok (.iconst 0, 1) := by decide +kernel
theorem dX10_begin_54 : decode cX10_begin 54 = .ok (.putfield 209, 3) := by decide +kernel
theorem dX10_begin_57 : decode cX10_begin 57 = .ok (.aload_n 0, 1) := by decide +kernel
theorem dX10_begin_58 : decode cX10_begin 58 = .ok (.iconst 0, 1) := by decide +kernel
theorem dX10_begin_59 : decode cX10_begin 59 = .ok (.putfield 212, 3) := by decide +kernel
theorem dX10_begin_62 : decode cX10_begin 62 = .ok (.iconst 0, 1) := by decide +kernel
theorem dX10_begin_63 : decode cX10_begin 63 = .ok (.istore_n 2, 1) := by decide +kernel
theorem dX10_begin_64 : decode cX10_begin 64 = .ok (.iload_n 2, 1) := by decide +kernel
theorem dX10_begin_65 : decode cX10_begin 65 = .ok (.aload_n 0, 1) := by decide +kernel
theorem dX10_begin_66 : decode cX10_begin 66 = .ok (.getfield 157, 3) := by decide +kernel
theorem dX10_begin_69 : decode cX10_begin 69 = .ok (.if_icmp .ge 141, 3) := by decide +kernel
theorem dX10_begin_72 : decode cX10_begin 72 = .ok (.aload_n 0, 1) := by decide +kernel
theorem dX10_begin_73 : decode cX10_begin 73 = .ok (.getfield 66, 3) := by decide +kernel
theorem dX10_begin_76 : decode cX10_begin 76 = .ok (.iload_n 2, 1) := by decide +kernel
theorem dX10_begin_77 : decode cX10_begin 77 = .ok (.iconst 0, 1) := by decide +kernel
theorem dX10_begin_78 : decode cX10_begin 78 = .ok (.iastore, 1) := by decide +kernel
theorem dX10_begin_79 : decode cX10_begin 79 = .ok (.aload_n 0, 1) := by decide +kernel
theorem dX10_begin_80 : decode cX10_begin 80 = .ok (.getfield 69, 3) := by decide +kernel
theorem dX10_begin_83 : decode cX10_begin 83 = .ok (.iload_n 2, 1) := by decide +kernel
theorem dX10_begin_84 : decode cX10_begin 84 = .ok (.aload_n 0, 1) := by decide +kernel
theorem dX10_begin_85 : decode cX10_begin 85 = .ok (.getfield 54, 3) := by decide +kernel
theorem dX10_begin_88 : decode cX10_begin 88 = .ok (.iload_n 2, 1) := by decide +kernel
theorem dX10_begin_89 : decode cX10_begin 89 = .ok (.iaload, 1) := by decide +kernel
theorem dX10_begin_90 : decode cX10_begin 90 = .ok (.iastore, 1) := by decide +kernel
theorem dX10_begin_91 : decode cX10_begin 91 = .ok (.aload_n 0, 1) := by decide +kernel
theorem dX10_begin_92 : decode cX10_begin 92 = .ok (.dup, 1) := by decide +kernel
theorem dX10_begin_93 : decode cX10_begin 93 = .ok (.getfield 206, 3) := by decide +kernel
theorem dX10_begin_96 : decode cX10_begin 96 = .ok (.aload_n 0, 1) := by decide +kernel
theorem dX10_begin_97 : decode cX10_begin 97 = .ok (.getfield 54, 3) := by decide +kernel
theorem dX10_begin_100 : decode cX10_begin 100 = .ok (.iload_n 2, 1) := by decide +kernel
theorem dX10_begin_101 : decode cX10_begin 101 = .ok (.iaload, 1) := by decide +kernel
theorem dX10_begin_102 : decode cX10_begin 102 = .ok (.isub, 1) := by decide +kernel
theorem dX10_begin_103 : decode cX10_begin 103 = .ok (.putfield 206, 3) := by decide +kernel
theorem dX10_begin_106 : decode cX10_begin 106 = .ok (.aload_n 0, 1) := by decide +kernel
theorem dX10_begin_107 : decode cX10_begin 107 = .ok (.getfield 72, 3) := by decide +kernel
theorem dX10_begin_110 : decode cX10_begin 110 = .ok (.iload_n 2, 1) := by decide +kernel
theorem dX10_begin_111 : decode cX10_begin 111 = .ok (.iconst 0, 1) := by decide +kernel
theorem dX10_begin_112 : decode cX10_begin 112 = .ok (.iastore, 1) := by decide +kernel
theorem dX10_begin_113 : decode cX10_begin 113 = .ok (.aload_n 0, 1) := by decide +kernel
theorem dX10_begin_114 : decode cX10_begin 114 = .ok (.getfield 75, 3) := by decide +kernel
theorem dX10_begin_117 : decode cX10_begin 117 = .ok (.iload_n 2, 1) := by decide +kernel
theorem dX10_begin_118 : decode cX10_begin 118 = .ok (.iconst 0, 1) := by decide +kernel
theorem dX10_begin_119 : decode cX10_begin 119 = .ok (.iastore, 1) := by decide +kernel
theorem dX10_begin_120 : decode cX10_begin 120 = .ok (.aload_n 0, 1) := by decide +kernel
theorem dX10_begin_121 : decode cX10_begin 121 = .ok (.getfield 78, 3) := by decide +kernel
theorem dX10_begin_124 : decode cX10_begin 124 = .ok (.iload_n 2, 1) := by decide +kernel
theorem dX10_begin_125 : decode cX10_begin 125 = .ok (.iconst 0, 1) := by decide +kernel
theorem dX10_begin_126 : decode cX10_begin 126 = .ok (.iastore, 1) := by decide +kernel
theorem dX10_begin_127 : decode cX10_begin 127 = .ok (.aload_n 0, 1) := by decide +kernel
theorem dX10_begin_128 : decode cX10_begin 128 = .ok (.getfield 81, 3) := by decide +kernel
theorem dX10_begin_131 : decode cX10_begin 131 = .ok (.iload_n 2, 1) := by decide +kernel
theorem dX10_begin_132 : decode cX10_begin 132 = .ok (.iconst 0, 1) := by decide +kernel
theorem dX10_begin_133 : decode cX10_begin 133 = .ok (.iastore, 1) := by decide +kernel
theorem dX10_begin_134 : decode cX10_begin 134 = .ok (.aload_n 0, 1) := by decide +kernel
theorem dX10_begin_135 : decode cX10_begin 135 = .ok (.getfield 84, 3) := by decide +kernel
theorem dX10_begin_138 : decode cX10_begin 138 = .ok (.iload_n 2, 1) := by decide +kernel
theorem dX10_begin_139 : decode cX10_begin 139 = .ok (.iconst 0, 1) := by decide +kernel
theorem dX10_begin_140 : decode cX10_begin 140 = .ok (.iastore, 1) := by decide +kernel
theorem dX10_begin_141 : decode cX10_begin 141 = .ok (.aload_n 0, 1) := by decide +kernel
theorem dX10_begin_142 : decode cX10_begin 142 = .ok (.getfield 87, 3) := by decide +kernel
theorem dX10_begin_145 : decode cX10_begin 145 = .ok (.iload_n 2, 1) := by decide +kernel
theorem dX10_begin_146 : decode cX10_begin 146 = .ok (.iconst 0, 1) := by decide +kernel
theorem dX10_begin_147 : decode cX10_begin 147 = .ok (.iastore, 1) := by decide +kernel
theorem dX10_begin_148 : decode cX10_begin 148 = .ok (.aload_n 0, 1) := by decide +kernel
theorem dX10_begin_149 : decode cX10_begin 149 = .ok (.getfield 90, 3) := by decide +kernel
theorem dX10_begin_152 : decode cX10_begin 152 = .ok (.iload_n 2, 1) := by decide +kernel
theorem dX10_begin_153 : decode cX10_begin 153 = .ok (.iconst 0, 1) := by decide +kernel
theorem dX10_begin_154 : decode cX10_begin 154 = .ok (.iastore, 1) := by decide +kernel
theorem dX10_begin_155 : decode cX10_begin 155 = .ok (.aload_n 0, 1) := by decide +kernel
theorem dX10_begin_156 : decode cX10_begin 156 = .ok (.getfield 93, 3) := by decide +kernel
theorem dX10_begin_159 : decode cX10_begin 159 = .ok (.iload_n 2, 1) := by decide +kernel
theorem dX10_begin_160 : decode cX10_begin 160 = .ok (.iconst 0, 1) := by decide +kernel
theorem dX10_begin_161 : decode cX10_begin 161 = .ok (.iastore, 1) := by decide +kernel
theorem dX10_begin_162 : decode cX10_begin 162 = .ok (.aload_n 0, 1) := by decide +kernel
theorem dX10_begin_163 : decode cX10_begin 163 = .ok (.getfield 96, 3) := by decide +kernel
theorem dX10_begin_166 : decode cX10_begin 166 = .ok (.iload_n 2, 1) := by decide +kernel
theorem dX10_begin_167 : decode cX10_begin 167 = .ok (.iconst (-1), 1) := by decide +kernel
theorem dX10_begin_168 : decode cX10_begin 168 = .ok (.iastore, 1) := by decide +kernel
theorem dX10_begin_169 : decode cX10_begin 169 = .ok (.aload_n 0, 1) := by decide +kernel
theorem dX10_begin_170 : decode cX10_begin 170 = .ok (.getfield 99, 3) := by decide +kernel
theorem dX10_begin_173 : decode cX10_begin 173 = .ok (.iload_n 2, 1) := by decide +kernel
theorem dX10_begin_174 : decode cX10_begin 174 = .ok (.iconst 0, 1) := by decide +kernel
theorem dX10_begin_175 : decode cX10_begin 175 = .ok (.iastore, 1) := by decide +kernel
theorem dX10_begin_176 : decode cX10_begin 176 = .ok (.aload_n 0, 1) := by decide +kernel
theorem dX10_begin_177 : decode cX10_begin 177 = .ok (.getfield 102, 3) := by decide +kernel
theorem dX10_begin_180 : decode cX10_begin 180 = .ok (.iload_n 2, 1) := by decide +kernel
theorem dX10_begin_181 : decode cX10_begin 181 = .ok (.iconst 0, 1) := by decide +kernel
theorem dX10_begin_182 : decode cX10_begin 182 = .ok (.iastore, 1) := by decide +kernel
theorem dX10_begin_183 : decode cX10_begin 183 = .ok (.aload_n 0, 1) := by decide +kernel
theorem dX10_begin_184 : decode cX10_begin 184 = .ok (.getfield 105, 3) := by decide +kernel
theorem dX10_begin_187 : decode cX10_begin 187 = .ok (.iload_n 2, 1) := by decide +kernel
theorem dX10_begin_188 : decode cX10_begin 188 = .ok (.iconst 0, 1) := by decide +kernel
theorem dX10_begin_189 : decode cX10_begin 189 = .ok (.iastore, 1) := by decide +kernel
theorem dX10_begin_190 : decode cX10_begin 190 = .ok (.aload_n 0, 1) := by decide +kernel
theorem dX10_begin_191 : decode cX10_begin 191 = .ok (.getfield 108, 3) := by decide +kernel
theorem dX10_begin_194 : decode cX10_begin 194 = .ok (.iload_n 2, 1) := by decide +kernel
theorem dX10_begin_195 : decode cX10_begin 195 = .ok (.iconst 0, 1) := by decide +kernel
theorem dX10_begin_196 : decode cX10_begin 196 = .ok (.bastore, 1) := by decide +kernel
theorem dX10_begin_197 : decode cX10_begin 197 = .ok (.aload_n 0, 1) := by decide +kernel
theorem dX10_begin_198 : decode cX10_begin 198 = .ok (.getfield 112, 3) := by decide +kernel
theorem dX10_begin_201 : decode cX10_begin 201 = .ok (.iload_n 2, 1) := by decide +kernel
theorem dX10_begin_202 : decode cX10_begin 202 = .ok (.iconst 0, 1) := by decide +kernel
theorem dX10_begin_203 : decode cX10_begin 203 = .ok (.bastore, 1) := by decide +kernel
theorem dX10_begin_204 : decode cX10_begin 204 = .ok (.iinc 2 1, 3) := by decide +kernel
theorem dX10_begin_207 : decode cX10_begin 207 = .ok (.goto (-143), 3) := by decide +kernel
theorem dX10_begin_210 : decode cX10_begin 210 = .ok (.iconst 1, 1) := by decide +kernel
theorem dX10_begin_211 : decode cX10_begin 211 = .ok (.ireturn, 1) := by decide +kernel
theorem dX10_stop_0 : decode cX10_stop 0 = .ok (.aload_n 0, 1) := by decide +kernel
theorem dX10_stop_1 : decode cX10_stop 1 = .ok (.iconst 0, 1) := by decide +kernel
theorem dX10_stop_2 : decode cX10_stop 2 = .ok (.putfield 121, 3) := by decide +kernel
theorem dX10_stop_5 : decode cX10_stop 5 = .ok (.aload_n 0, 1) := by decide +kernel
theorem dX10_stop_6 : decode cX10_stop 6 = .ok (.getfield 136, 3) := by decide +kernel
theorem dX10_stop_9 : decode cX10_stop 9 = .ok (.istore_n 1, 1) := by decide +kernel
theorem dX10_stop_10 : decode cX10_stop 10 = .ok (.aload_n 0, 1) := by decide +kernel
theorem dX10_stop_11 : decode cX10_stop 11 = .ok (.iconst 0, 1) := by decide +kernel
theorem dX10_stop_12 : decode cX10_stop 12 = .ok (.putfield 136, 3) := by decide +kernel
theorem dX10_stop_15 : decode cX10_stop 15 = .ok (.iload_n 1, 1) := by decide +kernel
theorem dX10_stop_16 : decode cX10_stop 16 = .ok (.ireturn, 1) := by decide +kernel
theorem dX10_tells_0 : decode cX10_tells 0 = .ok (.aload_n 0, 1) := by decide +kernel
theorem dX10_tells_1 : decode cX10_tells 1 = .ok (.getfield 209, 3) := by decide +kernel
theorem dX10_tells_4 : decode cX10_tells 4 = .ok (.bipush 60, 2) := by decide +kernel
theorem dX10_tells_6 : decode cX10_tells 6 = .ok (.if_icmp .ne 46, 3) := by decide +kernel
theorem dX10_tells_9 : decode cX10_tells 9 = .ok (.iconst 0, 1) := by decide +kernel
theorem dX10_tells_10 : decode cX10_tells 10 = .ok (.istore 4, 2) := by decide +kernel
theorem dX10_tells_12 : decode cX10_tells 12 = .ok (.iload 4, 2) := by decide +kernel
theorem dX10_tells_14 : decode cX10_tells 14 = .ok (.sipush 236, 3) := by decide +kernel
theorem dX10_tells_17 : decode cX10_tells 17 = .ok (.if_icmp .ge 25, 3) := by decide +kernel
theorem dX10_tells_20 : decode cX10_tells 20 = .ok (.aload_n 0, 1) := by decide +kernel
theorem dX10_tells_21 : decode cX10_tells 21 = .ok (.getfield 118, 3) := by decide +kernel
theorem dX10_tells_24 : decode cX10_tells 24 = .ok (.iload 4, 2) := by decide +kernel
theorem dX10_tells_26 : decode cX10_tells 26 = .ok (.aload_n 0, 1) := by decide +kernel
theorem dX10_tells_27 : decode cX10_tells 27 = .ok (.getfield 118, 3) := by decide +kernel
theorem dX10_tells_30 : decode cX10_tells 30 = .ok (.iload 4, 2) := by decide +kernel
theorem dX10_tells_32 : decode cX10_tells 32 = .ok (.iconst 4, 1) := by decide +kernel
theorem dX10_tells_33 : decode cX10_tells 33 = .ok (.iadd, 1) := by decide +kernel
theorem dX10_tells_34 : decode cX10_tells 34 = .ok (.iaload, 1) := by decide +kernel
theorem dX10_tells_35 : decode cX10_tells 35 = .ok (.iastore, 1) := by decide +kernel
theorem dX10_tells_36 : decode cX10_tells 36 = .ok (.iinc 4 1, 3) := by decide +kernel
theorem dX10_tells_39 : decode cX10_tells 39 = .ok (.goto (-27), 3) := by decide +kernel
theorem dX10_tells_42 : decode cX10_tells 42 = .ok (.aload_n 0, 1) := by decide +kernel
theorem dX10_tells_43 : decode cX10_tells 43 = .ok (.dup, 1) := by decide +kernel
theorem dX10_tells_44 : decode cX10_tells 44 = .ok (.getfield 209, 3) := by decide +kernel
theorem dX10_tells_47 : decode cX10_tells 47 = .ok (.iconst 1, 1) := by decide +kernel
theorem dX10_tells_48 : decode cX10_tells 48 = .ok (.isub, 1) := by decide +kernel
theorem dX10_tells_49 : decode cX10_tells 49 = .ok (.putfield 209, 3) := by decide +kernel
theorem dX10_tells_52 : decode cX10_tells 52 = .ok (.aload_n 0, 1) := by decide +kernel
theorem dX10_tells_53 : decode cX10_tells 53 = .ok (.getfield 118, 3) := by decide +kernel
theorem dX10_tells_56 : decode cX10_tells 56 = .ok (.iconst 4, 1) := by decide +kernel
theorem dX10_tells_57 : decode cX10_tells 57 = .ok (.aload_n 0, 1) := by decide +kernel
theorem dX10_tells_58 : decode cX10_tells 58 = .ok (.getfield 209, 3) := by decide +kernel
theorem dX10_tells_61 : decode cX10_tells 61 = .ok (.imul, 1) := by decide +kernel
theorem dX10_tells_62 : decode cX10_tells 62 = .ok (.aload_n 0, 1) := by decide +kernel
theorem dX10_tells_63 : decode cX10_tells 63 = .ok (.getfield 203, 3) := by decide +kernel
theorem dX10_tells_66 : decode cX10_tells 66 = .ok (.iastore, 1) := by decide +kernel
theorem dX10_tells_67 : decode cX10_tells 67 = .ok (.aload_n 0, 1) := by decide +kernel
theorem dX10_tells_68 : decode cX10_tells 68 = .ok (.getfield 118, 3) := by decide +kernel
theorem dX10_tells_71 : decode cX10_tells 71 = .ok (.iconst 4, 1) := by decide +kernel
theorem dX10_tells_72 : decode cX10_tells 72 = .ok (.aload_n 0, 1) := by decide +kernel
theorem dX10_tells_73 : decode cX10_tells 73 = .ok (.getfield 209, 3) := by decide +kernel
theorem dX10_tells_76 : decode cX10_tells 76 = .ok (.imul, 1) := by decide +kernel
theorem dX10_tells_77 : decode cX10_tells 77 = .ok (.iconst 1, 1) := by decide +kernel
theorem dX10_tells_78 : decode cX10_tells 78 = .ok (.iadd, 1) := by decide +kernel
theorem dX10_tells_79 : decode cX10_tells 79 = .ok (.iload_n 1, 1) := by decide +kernel
theorem dX10_tells_80 : decode cX10_tells 80 = .ok (.iastore, 1) := by decide +kernel
theorem dX10_tells_81 : decode cX10_tells 81 = .ok (.aload_n 0, 1) := by decide +kernel
theorem dX10_tells_82 : decode cX10_tells 82 = .ok (.getfield 118, 3) := by decide +kernel
theorem dX10_tells_85 : decode cX10_tells 85 = .ok (.iconst 4, 1) := by decide +kernel
theorem dX10_tells_86 : decode cX10_tells 86 = .ok (.aload_n 0, 1) := by decide +kernel
theorem dX10_tells_87 : decode cX10_tells 87 = .ok (.getfield 209, 3) := by decide +kernel
theorem dX10_tells_90 : decode cX10_tells 90 = .ok (.imul, 1) := by decide +kernel
theorem dX10_tells_91 : decode cX10_tells 91 = .ok (.iconst 2, 1) := by decide +kernel
theorem dX10_tells_92 : decode cX10_tells 92 = .ok (.iadd, 1) := by decide +kernel
theorem dX10_tells_93 : decode cX10_tells 93 = .ok (.iload_n 2, 1) := by decide +kernel
theorem dX10_tells_94 : decode cX10_tells 94 = .ok (.iastore, 1) := by decide +kernel
theorem dX10_tells_95 : decode cX10_tells 95 = .ok (.aload_n 0, 1) := by decide +kernel
theorem dX10_tells_96 : decode cX10_tells 96 = .ok (.getfield 118, 3) := by decide +kernel
theorem dX10_tells_99 : decode cX10_tells 99 = .ok (.iconst 4, 1) := by decide +kernel
theorem dX10_tells_100 : decode cX10_tells 100 = .ok (.aload_n 0, 1) := by decide +kernel
theorem dX10_tells_101 : decode cX10_tells 101 = .ok (.getfield 209, 3) := by decide +kernel
theorem dX10_tells_104 : decode cX10_tells 104 = .ok (.imul, 1) := by decide +kernel
theorem dX10_tells_105 : decode cX10_tells 105 = .ok (.iconst 3, 1) := by decide +kernel
theorem dX10_tells_106 : decode cX10_tells 106 = .ok (.iadd, 1) := by decide +kernel
theorem dX10_tells_107 : decode cX10_tells 107 = .ok (.iload_n 3, 1) := by decide +kernel
theorem dX10_tells_108 : decode cX10_tells 108 = .ok (.iastore, 1) := by decide +kernel
theorem dX10_tells_109 : decode cX10_tells 109 = .ok (.aload_n 0, 1) := by decide +kernel
theorem dX10_tells_110 : decode cX10_tells 110 = .ok (.dup, 1) := by decide +kernel
theorem dX10_tells_111 : decode cX10_tells 111 = .ok (.getfield 209, 3) := by decide +kernel
theorem dX10_tells_114 : decode cX10_tells 114 = .ok (.iconst 1, 1) := by decide +kernel
theorem dX10_tells_115 : decode cX10_tells 115 = .ok (.iadd, 1) := by decide +kernel
theorem dX10_tells_116 : decode cX10_tells 116 = .ok (.putfield 209, 3) := by decide +kernel
theorem dX10_tells_119 : decode cX10_tells 119 = .ok (.aload_n 0, 1) := by decide +kernel
theorem dX10_tells_120 : decode cX10_tells 120 = .ok (.dup, 1) := by decide +kernel
theorem dX10_tells_121 : decode cX10_tells 121 = .ok (.getfield 212, 3) := by decide +kernel
theorem dX10_tells_124 : decode cX10_tells 124 = .ok (.iconst 1, 1) := by decide +kernel
theorem dX10_tells_125 : decode cX10_tells 125 = .ok (.iadd, 1) := by decide +kernel
theorem dX10_tells_126 : decode cX10_tells 126 = .ok (.putfield 212, 3) := by decide +kernel
theorem dX10_tells_129 : decode cX10_tells 129 = .ok (.return_, 1) := by decide +kernel
theorem dX10_isThere_0 : decode cX10_isThere 0 = .ok (.aload_n 0, 1) := by decide +kernel
theorem dX10_isThere_1 : decode cX10_isThere 1 = .ok (.getfield 66, 3) := by decide +kernel
theorem dX10_isThere_4 : decode cX10_isThere 4 = .ok (.iload_n 1, 1) := by decide +kernel
theorem dX10_isThere_5 : decode cX10_isThere 5 = .ok (.iaload, 1) := by decide +kernel
theorem dX10_isThere_6 : decode cX10_isThere 6 = .ok (.iconst 3, 1) := by decide +kernel
theorem dX10_isThere_7 : decode cX10_isThere 7 = .ok (.if_icmp .ge 7, 3) := by decide +kernel
theorem dX10_isThere_10 : decode cX10_isThere 10 = .ok (.iconst 1, 1) := by decide +kernel
theorem dX10_isThere_11 : decode cX10_isThere 11 = .ok (.goto 4, 3) := by decide +kernel
theorem dX10_isThere_14 : decode cX10_isThere 14 = .ok (.iconst 0, 1) := by decide +kernel
theorem dX10_isThere_15 : decode cX10_isThere 15 = .ok (.ireturn, 1) := by decide +kernel
theorem dX10_isUp_0 : decode cX10_isUp 0 = .ok (.aload_n 0, 1) := by decide +kernel
theorem dX10_isUp_1 : decode cX10_isUp 1 = .ok (.getfield 66, 3) := by decide +kernel
theorem dX10_isUp_4 : decode cX10_isUp 4 = .ok (.iload_n 1, 1) := by decide +kernel
theorem dX10_isUp_5 : decode cX10_isUp 5 = .ok (.iaload, 1) := by decide +kernel
theorem dX10_isUp_6 : decode cX10_isUp 6 = .ok (.ifCond .eq 13, 3) := by decide +kernel
theorem dX10_isUp_9 : decode cX10_isUp 9 = .ok (.aload_n 0, 1) := by decide +kernel
theorem dX10_isUp_10 : decode cX10_isUp 10 = .ok (.getfield 66, 3) := by decide +kernel
theorem dX10_isUp_13 : decode cX10_isUp 13 = .ok (.iload_n 1, 1) := by decide +kernel
theorem dX10_isUp_14 : decode cX10_isUp 14 = .ok (.iaload, 1) := by decide +kernel
theorem dX10_isUp_15 : decode cX10_isUp 15 = .ok (.iconst 1, 1) := by decide +kernel
theorem dX10_isUp_16 : decode cX10_isUp 16 = .ok (.if_icmp .ne 7, 3) := by decide +kernel
theorem dX10_isUp_19 : decode cX10_isUp 19 = .ok (.iconst 1, 1) := by decide +kernel
theorem dX10_isUp_20 : decode cX10_isUp 20 = .ok (.goto 4, 3) := by decide +kernel
theorem dX10_isUp_23 : decode cX10_isUp 23 = .ok (.iconst 0, 1) := by decide +kernel
theorem dX10_isUp_24 : decode cX10_isUp 24 = .ok (.ireturn, 1) := by decide +kernel
theorem dX10_collects_0 : decode cX10_collects 0 = .ok (.aload_n 0, 1) := by decide +kernel
theorem dX10_collects_1 : decode cX10_collects 1 = .ok (.getfield 42, 3) := by decide +kernel
theorem dX10_collects_4 : decode cX10_collects 4 = .ok (.iload_n 1, 1) := by decide +kernel
theorem dX10_collects_5 : decode cX10_collects 5 = .ok (.iaload, 1) := by decide +kernel
theorem dX10_collects_6 : decode cX10_collects 6 = .ok (.aload_n 0, 1) := by decide +kernel
theorem dX10_collects_7 : decode cX10_collects 7 = .ok (.getfield 75, 3) := by decide +kernel
theorem dX10_collects_10 : decode cX10_collects 10 = .ok (.iload_n 1, 1) := by decide +kernel
theorem dX10_collects_11 : decode cX10_collects 11 = .ok (.iaload, 1) := by decide +kernel
theorem dX10_collects_12 : decode cX10_collects 12 = .ok (.aload_n 0, 1) := by decide +kernel
theorem dX10_collects_13 : decode cX10_collects 13 = .ok (.getfield 72, 3) := by decide +kernel
theorem dX10_collects_16 : decode cX10_collects 16 = .ok (.iload_n 1, 1) := by decide +kernel
theorem dX10_collects_17 : decode cX10_collects 17 = .ok (.iaload, 1) := by decide +kernel
theorem dX10_collects_18 : decode cX10_collects 18 = .ok (.invokestatic 164, 3) := by decide +kernel
theorem dX10_collects_21 : decode cX10_collects 21 = .ok (.istore_n 2, 1) := by decide +kernel
theorem dX10_collects_22 : decode cX10_collects 22 = .ok (.aload_n 0, 1) := by decide +kernel
theorem dX10_collects_23 : decode cX10_collects 23 = .ok (.getfield 87, 3) := by decide +kernel
theorem dX10_collects_26 : decode cX10_collects 26 = .ok (.iload_n 1, 1) := by decide +kernel
theorem dX10_collects_27 : decode cX10_collects 27 = .ok (.dup2, 1) := by decide +kernel
theorem dX10_collects_28 : decode cX10_collects 28 = .ok (.iaload, 1) := by decide +kernel
theorem dX10_collects_29 : decode cX10_collects 29 = .ok (.iload_n 2, 1) := by decide +kernel
theorem dX10_collects_30 : decode cX10_collects 30 = .ok (.iadd, 1) := by decide +kernel
theorem dX10_collects_31 : decode cX10_collects 31 = .ok (.iastore, 1) := by decide +kernel
theorem dX10_collects_32 : decode cX10_collects 32 = .ok (.aload_n 0, 1) := by decide +kernel
theorem dX10_collects_33 : decode cX10_collects 33 = .ok (.getfield 90, 3) := by decide +kernel
theorem dX10_collects_36 : decode cX10_collects 36 = .ok (.iload_n 1, 1) := by decide +kernel
theorem dX10_collects_37 : decode cX10_collects 37 = .ok (.dup2, 1) := by decide +kernel
theorem dX10_collects_38 : decode cX10_collects 38 = .ok (.iaload, 1) := by decide +kernel
theorem dX10_collects_39 : decode cX10_collects 39 = .ok (.iload_n 2, 1) := by decide +kernel
theorem dX10_collects_40 : decode cX10_collects 40 = .ok (.iadd, 1) := by decide +kernel
theorem dX10_collects_41 : decode cX10_collects 41 = .ok (.iastore, 1) := by decide +kernel
theorem dX10_collects_42 : decode cX10_collects 42 = .ok (.aload_n 0, 1) := by decide +kernel
theorem dX10_collects_43 : decode cX10_collects 43 = .ok (.getfield 72, 3) := by decide +kernel
theorem dX10_collects_46 : decode cX10_collects 46 = .ok (.iload_n 1, 1) := by decide +kernel
theorem dX10_collects_47 : decode cX10_collects 47 = .ok (.aload_n 0, 1) := by decide +kernel
theorem dX10_collects_48 : decode cX10_collects 48 = .ok (.getfield 75, 3) := by decide +kernel
theorem dX10_collects_51 : decode cX10_collects 51 = .ok (.iload_n 1, 1) := by decide +kernel
theorem dX10_collects_52 : decode cX10_collects 52 = .ok (.iaload, 1) := by decide +kernel
theorem dX10_collects_53 : decode cX10_collects 53 = .ok (.iastore, 1) := by decide +kernel
theorem dX10_collects_54 : decode cX10_collects 54 = .ok (.aload_n 0, 1) := by decide +kernel
theorem dX10_collects_55 : decode cX10_collects 55 = .ok (.iload_n 1, 1) := by decide +kernel
theorem dX10_collects_56 : decode cX10_collects 56 = .ok (.iconst 0, 1) := by decide +kernel
theorem dX10_collects_57 : decode cX10_collects 57 = .ok (.iload_n 2, 1) := by decide +kernel
theorem dX10_collects_58 : decode cX10_collects 58 = .ok (.invokevirtual 215, 3) := by decide +kernel
theorem dX10_collects_61 : decode cX10_collects 61 = .ok (.iload_n 2, 1) := by decide +kernel
theorem dX10_collects_62 : decode cX10_collects 62 = .ok (.ireturn, 1) := by decide +kernel
theorem dX10_spare_0 : decode cX10_spare 0 = .ok (.aload_n 0, 1) := by decide +kernel
theorem dX10_spare_1 : decode cX10_spare 1 = .ok (.iload_n 1, 1) := by decide +kernel
theorem dX10_spare_2 : decode cX10_spare 2 = .ok (.invokevirtual 219, 3) := by decide +kernel
theorem dX10_spare_5 : decode cX10_spare 5 = .ok (.ifCond .ne 5, 3) := by decide +kernel
theorem dX10_spare_8 : decode cX10_spare 8 = .ok (.iconst 0, 1) := by decide +kernel
theorem dX10_spare_9 : decode cX10_spare 9 = .ok (.ireturn, 1) := by decide +kernel
theorem dX10_spare_10 : decode cX10_spare 10 = .ok (.aload_n 0, 1) := by decide +kernel
theorem dX10_spare_11 : decode cX10_spare 11 = .ok (.aload_n 0, 1) := by decide +kernel
theorem dX10_spare_12 : decode cX10_spare 12 = .ok (.getfield 48, 3) := by decide +kernel
theorem dX10_spare_15 : decode cX10_spare 15 = .ok (.iload_n 1, 1) := by decide +kernel
theorem dX10_spare_16 : decode cX10_spare 16 = .ok (.iaload, 1) := by decide +kernel
theorem dX10_spare_17 : decode cX10_spare 17 = .ok (.aload_n 0, 1) := by decide +kernel
theorem dX10_spare_18 : decode cX10_spare 18 = .ok (.getfield 42, 3) := by decide +kernel
theorem dX10_spare_21 : decode cX10_spare 21 = .ok (.iload_n 1, 1) := by decide +kernel
theorem dX10_spare_22 : decode cX10_spare 22 = .ok (.iaload, 1) := by decide +kernel
theorem dX10_spare_23 : decode cX10_spare 23 = .ok (.ifCond .ne 14, 3) := by decide +kernel
theorem dX10_spare_26 : decode cX10_spare 26 = .ok (.iconst 2, 1) := by decide +kernel
theorem dX10_spare_27 : decode cX10_spare 27 = .ok (.aload_n 0, 1) := by decide +kernel
theorem dX10_spare_28 : decode cX10_spare 28 = .ok (.getfield 75, 3) := by decide +kernel
theorem dX10_spare_31 : decode cX10_spare 31 = .ok (.iload_n 1, 1) := by decide +kernel
theorem dX10_spare_32 : decode cX10_spare 32 = .ok (.iaload, 1) := by decide +kernel
theorem dX10_spare_33 : decode cX10_spare 33 = .ok (.imul, 1) := by decide +kernel
theorem dX10_spare_34 : decode cX10_spare 34 = .ok (.goto 9, 3) := by decide +kernel
theorem dX10_spare_37 : decode cX10_spare 37 = .ok (.aload_n 0, 1) := by decide +kernel
theorem dX10_spare_38 : decode cX10_spare 38 = .ok (.getfield 75, 3) := by decide +kernel
theorem dX10_spare_41 : decode cX10_spare 41 = .ok (.iload_n 1, 1) := by decide +kernel
theorem dX10_spare_42 : decode cX10_spare 42 = .ok (.iaload, 1) := by decide +kernel
theorem dX10_spare_43 : decode cX10_spare 43 = .ok (.invokestatic 222, 3) := by decide +kernel
theorem dX10_spare_46 : decode cX10_spare 46 = .ok (.invokevirtual 174, 3) := by decide +kernel
theorem dX10_spare_49 : decode cX10_spare 49 = .ok (.istore_n 2, 1) := by decide +kernel
theorem dX10_spare_50 : decode cX10_spare 50 = .ok (.iconst 0, 1) := by decide +kernel
theorem dX10_spare_51 : decode cX10_spare 51 = .ok (.aload_n 0, 1) := by decide +kernel
theorem dX10_spare_52 : decode cX10_spare 52 = .ok (.getfield 69, 3) := by decide +kernel
theorem dX10_spare_55 : decode cX10_spare 55 = .ok (.iload_n 1, 1) := by decide +kernel
theorem dX10_spare_56 : decode cX10_spare 56 = .ok (.iaload, 1) := by decide +kernel
theorem dX10_spare_57 : decode cX10_spare 57 = .ok (.iload_n 2, 1) := by decide +kernel
theorem dX10_spare_58 : decode cX10_spare 58 = .ok (.isub, 1) := by decide +kernel
theorem dX10_spare_59 : decode cX10_spare 59 = .ok (.invokestatic 222, 3) := by decide +kernel
theorem dX10_spare_62 : decode cX10_spare 62 = .ok (.ireturn, 1) := by decide +kernel
theorem dX10_gives_0 : decode cX10_gives 0 = .ok (.aload_n 0, 1) := by decide +kernel
theorem dX10_gives_1 : decode cX10_gives 1 = .ok (.getfield 72, 3) := by decide +kernel
theorem dX10_gives_4 : decode cX10_gives 4 = .ok (.iload_n 1, 1) := by decide +kernel
theorem dX10_gives_5 : decode cX10_gives 5 = .ok (.iaload, 1) := by decide +kernel
theorem dX10_gives_6 : decode cX10_gives 6 = .ok (.aload_n 0, 1) := by decide +kernel
theorem dX10_gives_7 : decode cX10_gives 7 = .ok (.getfield 42, 3) := by decide +kernel
theorem dX10_gives_10 : decode cX10_gives 10 = .ok (.iload_n 1, 1) := by decide +kernel
theorem dX10_gives_11 : decode cX10_gives 11 = .ok (.iaload, 1) := by decide +kernel
theorem dX10_gives_12 : decode cX10_gives 12 = .ok (.aload_n 0, 1) := by decide +kernel
theorem dX10_gives_13 : decode cX10_gives 13 = .ok (.getfield 69, 3) := by decide +kernel
theorem dX10_gives_16 : decode cX10_gives 16 = .ok (.iload_n 1, 1) := by decide +kernel
theorem dX10_gives_17 : decode cX10_gives 17 = .ok (.iaload, 1) := by decide +kernel
theorem dX10_gives_18 : decode cX10_gives 18 = .ok (.iload_n 2, 1) := by decide +kernel
theorem dX10_gives_19 : decode cX10_gives 19 = .ok (.isub, 1) := by decide +kernel
theorem dX10_gives_20 : decode cX10_gives 20 = .ok (.invokestatic 160, 3) := by decide +kernel
theorem dX10_gives_23 : decode cX10_gives 23 = .ok (.if_icmp .le 36, 3) := by decide +kernel
theorem dX10_gives_26 : decode cX10_gives 26 = .ok (.aload_n 0, 1) := by decide +kernel
theorem dX10_gives_27 : decode cX10_gives 27 = .ok (.iload_n 1, 1) := by decide +kernel
theorem dX10_gives_28 : decode cX10_gives 28 = .ok (.invokevirtual 225, 3) := by decide +kernel
theorem dX10_gives_31 : decode cX10_gives 31 = .ok (.istore_n 3, 1) := by decide +kernel
theorem dX10_gives_32 : decode cX10_gives 32 = .ok (.aload_n 0, 1) := by decide +kernel
theorem dX10_gives_33 : decode cX10_gives 33 = .ok (.getfield 66, 3) := by decide +kernel
theorem dX10_gives_36 : decode cX10_gives 36 = .ok (.iload_n 1, 1) := by decide +kernel
theorem dX10_gives_37 : decode cX10_gives 37 = .ok (.iaload, 1) := by decide +kernel
theorem dX10_gives_38 : decode cX10_gives 38 = .ok (.iconst 2, 1) := by decide +kernel
theorem dX10_gives_39 : decode cX10_gives 39 = .ok (.if_icmp .eq 20, 3) := by decide +kernel
theorem dX10_gives_42 : decode cX10_gives 42 = .ok (.aload_n 0, 1) := by decide +kernel
theorem dX10_gives_43 : decode cX10_gives 43 = .ok (.getfield 66, 3) := by decide +kernel
theorem dX10_gives_46 : decode cX10_gives 46 = .ok (.iload_n 1, 1) := by decide +kernel
theorem dX10_gives_47 : decode cX10_gives 47 = .ok (.iconst 1, 1) := by decide +kernel
theorem dX10_gives_48 : decode cX10_gives 48 = .ok (.iastore, 1) := by decide +kernel
theorem dX10_gives_49 : decode cX10_gives 49 = .ok (.aload_n 0, 1) := by decide +kernel
theorem dX10_gives_50 : decode cX10_gives 50 = .ok (.getfield 93, 3) := by decide +kernel
theorem dX10_gives_53 : decode cX10_gives 53 = .ok (.iload_n 1, 1) := by decide +kernel
theorem dX10_gives_54 : decode cX10_gives 54 = .ok (.dup2, 1) := by decide +kernel
theorem dX10_gives_55 : decode cX10_gives 55 = .ok (.iaload, 1) := by decide +kernel
theorem dX10_gives_56 : decode cX10_gives 56 = .ok (.iload_n 3, 1) := by decide +kernel
theorem dX10_gives_57 : decode cX10_gives 57 = .ok (.iadd, 1) := by decide +kernel
theorem dX10_gives_58 : decode cX10_gives 58 = .ok (.iastore, 1) := by decide +kernel
theorem dX10_gives_59 : decode cX10_gives 59 = .ok (.aload_n 0, 1) := by decide +kernel
theorem dX10_gives_60 : decode cX10_gives 60 = .ok (.getfield 69, 3) := by decide +kernel
theorem dX10_gives_63 : decode cX10_gives 63 = .ok (.iload_n 1, 1) := by decide +kernel
theorem dX10_gives_64 : decode cX10_gives 64 = .ok (.dup2, 1) := by decide +kernel
theorem dX10_gives_65 : decode cX10_gives 65 = .ok (.iaload, 1) := by decide +kernel
theorem dX10_gives_66 : decode cX10_gives 66 = .ok (.iload_n 2, 1) := by decide +kernel
theorem dX10_gives_67 : decode cX10_gives 67 = .ok (.isub, 1) := by decide +kernel
theorem dX10_gives_68 : decode cX10_gives 68 = .ok (.iastore, 1) := by decide +kernel
theorem dX10_gives_69 : decode cX10_gives 69 = .ok (.aload_n 0, 1) := by decide +kernel
theorem dX10_gives_70 : decode cX10_gives 70 = .ok (.iload_n 1, 1) := by decide +kernel
theorem dX10_gives_71 : decode cX10_gives 71 = .ok (.iconst 3, 1) := by decide +kernel
theorem dX10_gives_72 : decode cX10_gives 72 = .ok (.iload_n 2, 1) := by decide +kernel
theorem dX10_gives_73 : decode cX10_gives 73 = .ok (.invokevirtual 215, 3) := by decide +kernel
theorem dX10_gives_76 : decode cX10_gives 76 = .ok (.return_, 1) := by decide +kernel
theorem dX10_isOver_0 : decode cX10_isOver 0 = .ok (.aload_n 0, 1) := by decide +kernel
theorem dX10_isOver_1 : decode cX10_isOver 1 = .ok (.getfield 66, 3) := by decide +kernel
theorem dX10_isOver_4 : decode cX10_isOver 4 = .ok (.iload_n 1, 1) := by decide +kernel
theorem dX10_isOver_5 : decode cX10_isOver 5 = .ok (.iload_n 2, 1) := by decide +kernel
theorem dX10_isOver_6 : decode cX10_isOver 6 = .ok (.iastore, 1) := by decide +kernel
theorem dX10_isOver_7 : decode cX10_isOver 7 = .ok (.aload_n 0, 1) := by decide +kernel
theorem dX10_isOver_8 : decode cX10_isOver 8 = .ok (.getfield 96, 3) := by decide +kernel
theorem dX10_isOver_11 : decode cX10_isOver 11 = .ok (.iload_n 1, 1) := by decide +kernel
theorem dX10_isOver_12 : decode cX10_isOver 12 = .ok (.aload_n 0, 1) := by decide +kernel
theorem dX10_isOver_13 : decode cX10_isOver 13 = .ok (.getfield 203, 3) := by decide +kernel
theorem dX10_isOver_16 : decode cX10_isOver 16 = .ok (.iastore, 1) := by decide +kernel
theorem dX10_isOver_17 : decode cX10_isOver 17 = .ok (.aload_n 0, 1) := by decide +kernel
theorem dX10_isOver_18 : decode cX10_isOver 18 = .ok (.getfield 93, 3) := by decide +kernel
theorem dX10_isOver_21 : decode cX10_isOver 21 = .ok (.iload_n 1, 1) := by decide +kernel
theorem dX10_isOver_22 : decode cX10_isOver 22 = .ok (.iconst 0, 1) := by decide +kernel
theorem dX10_isOver_23 : decode cX10_isOver 23 = .ok (.iastore, 1) := by decide +kernel
theorem dX10_isOver_24 : decode cX10_isOver 24 = .ok (.aload_n 0, 1) := by decide +kernel
theorem dX10_isOver_25 : decode cX10_isOver 25 = .ok (.getfield 69, 3) := by decide +kernel
theorem dX10_isOver_28 : decode cX10_isOver 28 = .ok (.iload_n 1, 1) := by decide +kernel
theorem dX10_isOver_29 : decode cX10_isOver 29 = .ok (.iaload, 1) := by decide +kernel
theorem dX10_isOver_30 : decode cX10_isOver 30 = .ok (.istore_n 3, 1) := by decide +kernel
theorem dX10_isOver_31 : decode cX10_isOver 31 = .ok (.aload_n 0, 1) := by decide +kernel
theorem dX10_isOver_32 : decode cX10_isOver 32 = .ok (.dup, 1) := by decide +kernel
theorem dX10_isOver_33 : decode cX10_isOver 33 = .ok (.getfield 206, 3) := by decide +kernel
theorem dX10_isOver_36 : decode cX10_isOver 36 = .ok (.iload_n 3, 1) := by decide +kernel
theorem dX10_isOver_37 : decode cX10_isOver 37 = .ok (.iadd, 1) := by decide +kernel
theorem dX10_isOver_38 : decode cX10_isOver 38 = .ok (.putfield 206, 3) := by decide +kernel
theorem dX10_isOver_41 : decode cX10_isOver 41 = .ok (.aload_n 0, 1) := by decide +kernel
theorem dX10_isOver_42 : decode cX10_isOver 42 = .ok (.getfield 69, 3) := by decide +kernel
theorem dX10_isOver_45 : decode cX10_isOver 45 = .ok (.iload_n 1, 1) := by decide +kernel
theorem dX10_isOver_46 : decode cX10_isOver 46 = .ok (.iconst 0, 1) := by decide +kernel
theorem dX10_isOver_47 : decode cX10_isOver 47 = .ok (.iastore, 1) := by decide +kernel
theorem dX10_isOver_48 : decode cX10_isOver 48 = .ok (.aload_n 0, 1) := by decide +kernel
theorem dX10_isOver_49 : decode cX10_isOver 49 = .ok (.getfield 72, 3) := by decide +kernel
theorem dX10_isOver_52 : decode cX10_isOver 52 = .ok (.iload_n 1, 1) := by decide +kernel
theorem dX10_isOver_53 : decode cX10_isOver 53 = .ok (.iconst 0, 1) := by decide +kernel
theorem dX10_isOver_54 : decode cX10_isOver 54 = .ok (.iastore, 1) := by decide +kernel
theorem dX10_isOver_55 : decode cX10_isOver 55 = .ok (.aload_n 0, 1) := by decide +kernel
theorem dX10_isOver_56 : decode cX10_isOver 56 = .ok (.getfield 75, 3) := by decide +kernel
theorem dX10_isOver_59 : decode cX10_isOver 59 = .ok (.iload_n 1, 1) := by decide +kernel
theorem dX10_isOver_60 : decode cX10_isOver 60 = .ok (.iconst 0, 1) := by decide +kernel
theorem dX10_isOver_61 : decode cX10_isOver 61 = .ok (.iastore, 1) := by decide +kernel
theorem dX10_isOver_62 : decode cX10_isOver 62 = .ok (.aload_n 0, 1) := by decide +kernel
theorem dX10_isOver_63 : decode cX10_isOver 63 = .ok (.iload_n 1, 1) := by decide +kernel
theorem dX10_isOver_64 : decode cX10_isOver 64 = .ok (.iload_n 2, 1) := by decide +kernel
theorem dX10_isOver_65 : decode cX10_isOver 65 = .ok (.iconst 3, 1) := by decide +kernel
theorem dX10_isOver_66 : decode cX10_isOver 66 = .ok (.if_icmp .ne 8, 3) := by decide +kernel
theorem dX10_isOver_69 : decode cX10_isOver 69 = .ok (.bipush 6, 2) := by decide +kernel
theorem dX10_isOver_71 : decode cX10_isOver 71 = .ok (.goto 4, 3) := by decide +kernel
theorem dX10_isOver_74 : decode cX10_isOver 74 = .ok (.iconst 2, 1) := by decide +kernel
theorem dX10_isOver_75 : decode cX10_isOver 75 = .ok (.iload_n 3, 1) := by decide +kernel
theorem dX10_isOver_76 : decode cX10_isOver 76 = .ok (.invokevirtual 215, 3) := by decide +kernel
theorem dX10_isOver_79 : decode cX10_isOver 79 = .ok (.return_, 1) := by decide +kernel
theorem dX10_passes_0 : decode cX10_passes 0 = .ok (.aload_n 0, 1) := by decide +kernel
theorem dX10_passes_1 : decode cX10_passes 1 = .ok (.getfield 66, 3) := by decide +kernel
theorem dX10_passes_4 : decode cX10_passes 4 = .ok (.iload_n 1, 1) := by decide +kernel
theorem dX10_passes_5 : decode cX10_passes 5 = .ok (.iaload, 1) := by decide +kernel
theorem dX10_passes_6 : decode cX10_passes 6 = .ok (.iconst 2, 1) := by decide +kernel
theorem dX10_passes_7 : decode cX10_passes 7 = .ok (.if_icmp .ne 77, 3) := by decide +kernel
theorem dX10_passes_10 : decode cX10_passes 10 = .ok (.aload_n 0, 1) := by decide +kernel
theorem dX10_passes_11 : decode cX10_passes 11 = .ok (.getfield 112, 3) := by decide +kernel
theorem dX10_passes_14 : decode cX10_passes 14 = .ok (.iload_n 1, 1) := by decide +kernel
theorem dX10_passes_15 : decode cX10_passes 15 = .ok (.baload, 1) := by decide +kernel
theorem dX10_passes_16 : decode cX10_passes 16 = .ok (.ifCond .eq 68, 3) := by decide +kernel
theorem dX10_passes_19 : decode cX10_passes 19 = .ok (.aload_n 0, 1) := by decide +kernel
theorem dX10_passes_20 : decode cX10_passes 20 = .ok (.getfield 206, 3) := by decide +kernel
theorem dX10_passes_23 : decode cX10_passes 23 = .ok (.aload_n 0, 1) := by decide +kernel
theorem dX10_passes_24 : decode cX10_passes 24 = .ok (.getfield 23, 3) := by decide +kernel
theorem dX10_passes_27 : decode cX10_passes 27 = .ok (.idiv, 1) := by decide +kernel
theorem dX10_passes_28 : decode cX10_passes 28 = .ok (.aload_n 0, 1) := by decide +kernel
theorem dX10_passes_29 : decode cX10_passes 29 = .ok (.getfield 23, 3) := by decide +kernel
theorem dX10_passes_32 : decode cX10_passes 32 = .ok (.imul, 1) := by decide +kernel
theorem dX10_passes_33 : decode cX10_passes 33 = .ok (.aload_n 0, 1) := by decide +kernel
theorem dX10_passes_34 : decode cX10_passes 34 = .ok (.getfield 99, 3) := by decide +kernel
theorem dX10_passes_37 : decode cX10_passes 37 = .ok (.iload_n 1, 1) := by decide +kernel
theorem dX10_passes_38 : decode cX10_passes 38 = .ok (.iaload, 1) := by decide +kernel
theorem dX10_passes_39 : decode cX10_passes 39 = .ok (.aload_n 0, 1) := by decide +kernel
theorem dX10_passes_40 : decode cX10_passes 40 = .ok (.getfield 69, 3) := by decide +kernel
theorem dX10_passes_43 : decode cX10_passes 43 = .ok (.iload_n 1, 1) := by decide +kernel
theorem dX10_passes_44 : decode cX10_passes 44 = .ok (.iaload, 1) := by decide +kernel
theorem dX10_passes_45 : decode cX10_passes 45 = .ok (.isub, 1) := by decide +kernel
theorem dX10_passes_46 : decode cX10_passes 46 = .ok (.invokestatic 228, 3) := by decide +kernel
theorem dX10_passes_49 : decode cX10_passes 49 = .ok (.istore_n 2, 1) := by decide +kernel
theorem dX10_passes_50 : decode cX10_passes 50 = .ok (.aload_n 0, 1) := by decide +kernel
theorem dX10_passes_51 : decode cX10_passes 51 = .ok (.dup, 1) := by decide +kernel
theorem dX10_passes_52 : decode cX10_passes 52 = .ok (.getfield 206, 3) := by decide +kernel
theorem dX10_passes_55 : decode cX10_passes 55 = .ok (.iload_n 2, 1) := by decide +kernel
theorem dX10_passes_56 : decode cX10_passes 56 = .ok (.isub, 1) := by decide +kernel
theorem dX10_passes_57 : decode cX10_passes 57 = .ok (.putfield 206, 3) := by decide +kernel
theorem dX10_passes_60 : decode cX10_passes 60 = .ok (.aload_n 0, 1) := by decide +kernel
theorem dX10_passes_61 : decode cX10_passes 61 = .ok (.getfield 69, 3) := by decide +kernel
theorem dX10_passes_64 : decode cX10_passes 64 = .ok (.iload_n 1, 1) := by decide +kernel
theorem dX10_passes_65 : decode cX10_passes 65 = .ok (.dup2, 1) := by decide +kernel
theorem dX10_passes_66 : decode cX10_passes 66 = .ok (.iaload, 1) := by decide +kernel
theorem dX10_passes_67 : decode cX10_passes 67 = .ok (.iload_n 2, 1) := by decide +kernel
theorem dX10_passes_68 : decode cX10_passes 68 = .ok (.iadd, 1) := by decide +kernel
theorem dX10_passes_69 : decode cX10_passes 69 = .ok (.iastore, 1) := by decide +kernel
theorem dX10_passes_70 : decode cX10_passes 70 = .ok (.aload_n 0, 1) := by decide +kernel
theorem dX10_passes_71 : decode cX10_passes 71 = .ok (.getfield 112, 3) := by decide +kernel
theorem dX10_passes_74 : decode cX10_passes 74 = .ok (.iload_n 1, 1) := by decide +kernel
theorem dX10_passes_75 : decode cX10_passes 75 = .ok (.iconst 0, 1) := by decide +kernel
theorem dX10_passes_76 : decode cX10_passes 76 = .ok (.bastore, 1) := by decide +kernel
theorem dX10_passes_77 : decode cX10_passes 77 = .ok (.aload_n 0, 1) := by decide +kernel
theorem dX10_passes_78 : decode cX10_passes 78 = .ok (.iload_n 1, 1) := by decide +kernel
theorem dX10_passes_79 : decode cX10_passes 79 = .ok (.iconst 5, 1) := by decide +kernel
theorem dX10_passes_80 : decode cX10_passes 80 = .ok (.iload_n 2, 1) := by decide +kernel
theorem dX10_passes_81 : decode cX10_passes 81 = .ok (.invokevirtual 215, 3) := by decide +kernel
theorem dX10_passes_84 : decode cX10_passes 84 = .ok (.aload_n 0, 1) := by decide +kernel
theorem dX10_passes_85 : decode cX10_passes 85 = .ok (.getfield 66, 3) := by decide +kernel
theorem dX10_passes_88 : decode cX10_passes 88 = .ok (.iload_n 1, 1) := by decide +kernel
theorem dX10_passes_89 : decode cX10_passes 89 = .ok (.iconst 0, 1) := by decide +kernel
theorem dX10_passes_90 : decode cX10_passes 90 = .ok (.iastore, 1) := by decide +kernel
theorem dX10_passes_91 : decode cX10_passes 91 = .ok (.aload_n 0, 1) := by decide +kernel
theorem dX10_passes_92 : decode cX10_passes 92 = .ok (.getfield 93, 3) := by decide +kernel
theorem dX10_passes_95 : decode cX10_passes 95 = .ok (.iload_n 1, 1) := by decide +kernel
theorem dX10_passes_96 : decode cX10_passes 96 = .ok (.iconst 0, 1) := by decide +kernel
theorem dX10_passes_97 : decode cX10_passes 97 = .ok (.iastore, 1) := by decide +kernel
theorem dX10_passes_98 : decode cX10_passes 98 = .ok (.aload_n 0, 1) := by decide +kernel
theorem dX10_passes_99 : decode cX10_passes 99 = .ok (.getfield 81, 3) := by decide +kernel
theorem dX10_passes_102 : decode cX10_passes 102 = .ok (.iload_n 1, 1) := by decide +kernel
theorem dX10_passes_103 : decode cX10_passes 103 = .ok (.dup2, 1) := by decide +kernel
theorem dX10_passes_104 : decode cX10_passes 104 = .ok (.iaload, 1) := by decide +kernel
theorem dX10_passes_105 : decode cX10_passes 105 = .ok (.iconst 1, 1) := by decide +kernel
theorem dX10_passes_106 : decode cX10_passes 106 = .ok (.iadd, 1) := by decide +kernel
theorem dX10_passes_107 : decode cX10_passes 107 = .ok (.iastore, 1) := by decide +kernel
theorem dX10_passes_108 : decode cX10_passes 108 = .ok (.aload_n 0, 1) := by decide +kernel
theorem dX10_passes_109 : decode cX10_passes 109 = .ok (.getfield 81, 3) := by decide +kernel
theorem dX10_passes_112 : decode cX10_passes 112 = .ok (.iload_n 1, 1) := by decide +kernel
theorem dX10_passes_113 : decode cX10_passes 113 = .ok (.iaload, 1) := by decide +kernel
theorem dX10_passes_114 : decode cX10_passes 114 = .ok (.aload_n 0, 1) := by decide +kernel
theorem dX10_passes_115 : decode cX10_passes 115 = .ok (.getfield 36, 3) := by decide +kernel
theorem dX10_passes_118 : decode cX10_passes 118 = .ok (.iload_n 1, 1) := by decide +kernel
theorem dX10_passes_119 : decode cX10_passes 119 = .ok (.iaload, 1) := by decide +kernel
theorem dX10_passes_120 : decode cX10_passes 120 = .ok (.if_icmp .ge 4, 3) := by decide +kernel
theorem dX10_passes_123 : decode cX10_passes 123 = .ok (.return_, 1) := by decide +kernel
theorem dX10_passes_124 : decode cX10_passes 124 = .ok (.aload_n 0, 1) := by decide +kernel
theorem dX10_passes_125 : decode cX10_passes 125 = .ok (.getfield 81, 3) := by decide +kernel
theorem dX10_passes_128 : decode cX10_passes 128 = .ok (.iload_n 1, 1) := by decide +kernel
theorem dX10_passes_129 : decode cX10_passes 129 = .ok (.iconst 0, 1) := by decide +kernel
theorem dX10_passes_130 : decode cX10_passes 130 = .ok (.iastore, 1) := by decide +kernel
theorem dX10_passes_131 : decode cX10_passes 131 = .ok (.aload_n 0, 1) := by decide +kernel
theorem dX10_passes_132 : decode cX10_passes 132 = .ok (.getfield 102, 3) := by decide +kernel
theorem dX10_passes_135 : decode cX10_passes 135 = .ok (.iload_n 1, 1) := by decide +kernel
theorem dX10_passes_136 : decode cX10_passes 136 = .ok (.aload_n 0, 1) := by decide +kernel
theorem dX10_passes_137 : decode cX10_passes 137 = .ok (.getfield 78, 3) := by decide +kernel
theorem dX10_passes_140 : decode cX10_passes 140 = .ok (.iload_n 1, 1) := by decide +kernel
theorem dX10_passes_141 : decode cX10_passes 141 = .ok (.iaload, 1) := by decide +kernel
theorem dX10_passes_142 : decode cX10_passes 142 = .ok (.ifCond .le 29, 3) := by decide +kernel
theorem dX10_passes_145 : decode cX10_passes 145 = .ok (.aload_n 0, 1) := by decide +kernel
theorem dX10_passes_146 : decode cX10_passes 146 = .ok (.getfield 75, 3) := by decide +kernel
theorem dX10_passes_149 : decode cX10_passes 149 = .ok (.iload_n 1, 1) := by decide +kernel
theorem dX10_passes_150 : decode cX10_passes 150 = .ok (.iaload, 1) := by decide +kernel
theorem dX10_passes_151 : decode cX10_passes 151 = .ok (.aload_n 0, 1) := by decide +kernel
theorem dX10_passes_152 : decode cX10_passes 152 = .ok (.getfield 105, 3) := by decide +kernel
theorem dX10_passes_155 : decode cX10_passes 155 = .ok (.iload_n 1, 1) := by decide +kernel
theorem dX10_passes_156 : decode cX10_passes 156 = .ok (.iaload, 1) := by decide +kernel
theorem dX10_passes_157 : decode cX10_passes 157 = .ok (.if_icmp .le 14, 3) := by decide +kernel
theorem dX10_passes_160 : decode cX10_passes 160 = .ok (.aload_n 0, 1) := by decide +kernel
theorem dX10_passes_161 : decode cX10_passes 161 = .ok (.getfield 102, 3) := by decide +kernel
theorem dX10_passes_164 : decode cX10_passes 164 = .ok (.iload_n 1, 1) := by decide +kernel
theorem dX10_passes_165 : decode cX10_passes 165 = .ok (.iaload, 1) := by decide +kernel
theorem dX10_passes_166 : decode cX10_passes 166 = .ok (.iconst 1, 1) := by decide +kernel
theorem dX10_passes_167 : decode cX10_passes 167 = .ok (.iadd, 1) := by decide +kernel
theorem dX10_passes_168 : decode cX10_passes 168 = .ok (.goto 4, 3) := by decide +kernel
theorem dX10_passes_171 : decode cX10_passes 171 = .ok (.iconst 0, 1) := by decide +kernel
theorem dX10_passes_172 : decode cX10_passes 172 = .ok (.iastore, 1) := by decide +kernel
theorem dX10_passes_173 : decode cX10_passes 173 = .ok (.aload_n 0, 1) := by decide +kernel
theorem dX10_passes_174 : decode cX10_passes 174 = .ok (.getfield 105, 3) := by decide +kernel
theorem dX10_passes_177 : decode cX10_passes 177 = .ok (.iload_n 1, 1) := by decide +kernel
theorem dX10_passes_178 : decode cX10_passes 178 = .ok (.aload_n 0, 1) := by decide +kernel
theorem dX10_passes_179 : decode cX10_passes 179 = .ok (.getfield 75, 3) := by decide +kernel
theorem dX10_passes_182 : decode cX10_passes 182 = .ok (.iload_n 1, 1) := by decide +kernel
theorem dX10_passes_183 : decode cX10_passes 183 = .ok (.iaload, 1) := by decide +kernel
theorem dX10_passes_184 : decode cX10_passes 184 = .ok (.iastore, 1) := by decide +kernel
theorem dX10_passes_185 : decode cX10_passes 185 = .ok (.aload_n 0, 1) := by decide +kernel
theorem dX10_passes_186 : decode cX10_passes 186 = .ok (.getfield 78, 3) := by decide +kernel
theorem dX10_passes_189 : decode cX10_passes 189 = .ok (.iload_n 1, 1) := by decide +kernel
theorem dX10_passes_190 : decode cX10_passes 190 = .ok (.dup2, 1) := by decide +kernel
theorem dX10_passes_191 : decode cX10_passes 191 = .ok (.iaload, 1) := by decide +kernel
theorem dX10_passes_192 : decode cX10_passes 192 = .ok (.iconst 1, 1) := by decide +kernel
theorem dX10_passes_193 : decode cX10_passes 193 = .ok (.iadd, 1) := by decide +kernel
theorem dX10_passes_194 : decode cX10_passes 194 = .ok (.iastore, 1) := by decide +kernel
theorem dX10_passes_195 : decode cX10_passes 195 = .ok (.aload_n 0, 1) := by decide +kernel
theorem dX10_passes_196 : decode cX10_passes 196 = .ok (.getfield 102, 3) := by decide +kernel
theorem dX10_passes_199 : decode cX10_passes 199 = .ok (.iload_n 1, 1) := by decide +kernel
theorem dX10_passes_200 : decode cX10_passes 200 = .ok (.iaload, 1) := by decide +kernel
theorem dX10_passes_201 : decode cX10_passes 201 = .ok (.iconst 3, 1) := by decide +kernel
theorem dX10_passes_202 : decode cX10_passes 202 = .ok (.if_icmp .lt 32, 3) := by decide +kernel
theorem dX10_passes_205 : decode cX10_passes 205 = .ok (.aload_n 0, 1) := by decide +kernel
theorem dX10_passes_206 : decode cX10_passes 206 = .ok (.getfield 108, 3) := by decide +kernel
theorem dX10_passes_209 : decode cX10_passes 209 = .ok (.iload_n 1, 1) := by decide +kernel
theorem dX10_passes_210 : decode cX10_passes 210 = .ok (.baload, 1) := by decide +kernel
theorem dX10_passes_211 : decode cX10_passes 211 = .ok (.ifCond .ne 23, 3) := by decide +kernel
theorem dX10_passes_214 : decode cX10_passes 214 = .ok (.aload_n 0, 1) := by decide +kernel
theorem dX10_passes_215 : decode cX10_passes 215 = .ok (.getfield 108, 3) := by decide +kernel
theorem dX10_passes_218 : decode cX10_passes 218 = .ok (.iload_n 1, 1) := by decide +kernel
theorem dX10_passes_219 : decode cX10_passes 219 = .ok (.iconst 1, 1) := by decide +kernel
theorem dX10_passes_220 : decode cX10_passes 220 = .ok (.bastore, 1) := by decide +kernel
theorem dX10_passes_221 : decode cX10_passes 221 = .ok (.aload_n 0, 1) := by decide +kernel
theorem dX10_passes_222 : decode cX10_passes 222 = .ok (.iload_n 1, 1) := by decide +kernel
theorem dX10_passes_223 : decode cX10_passes 223 = .ok (.bipush 7, 2) := by decide +kernel
theorem dX10_passes_225 : decode cX10_passes 225 = .ok (.aload_n 0, 1) := by decide +kernel
theorem dX10_passes_226 : decode cX10_passes 226 = .ok (.getfield 75, 3) := by decide +kernel
theorem dX10_passes_229 : decode cX10_passes 229 = .ok (.iload_n 1, 1) := by decide +kernel
theorem dX10_passes_230 : decode cX10_passes 230 = .ok (.iaload, 1) := by decide +kernel
theorem dX10_passes_231 : decode cX10_passes 231 = .ok (.invokevirtual 215, 3) := by decide +kernel
theorem dX10_passes_234 : decode cX10_passes 234 = .ok (.aload_n 0, 1) := by decide +kernel
theorem dX10_passes_235 : decode cX10_passes 235 = .ok (.getfield 78, 3) := by decide +kernel
theorem dX10_passes_238 : decode cX10_passes 238 = .ok (.iload_n 1, 1) := by decide +kernel
theorem dX10_passes_239 : decode cX10_passes 239 = .ok (.iaload, 1) := by decide +kernel
theorem dX10_passes_240 : decode cX10_passes 240 = .ok (.aload_n 0, 1) := by decide +kernel
theorem dX10_passes_241 : decode cX10_passes 241 = .ok (.getfield 45, 3) := by decide +kernel
theorem dX10_passes_244 : decode cX10_passes 244 = .ok (.iload_n 1, 1) := by decide +kernel
theorem dX10_passes_245 : decode cX10_passes 245 = .ok (.iaload, 1) := by decide +kernel
theorem dX10_passes_246 : decode cX10_passes 246 = .ok (.if_icmp .ne 9, 3) := by decide +kernel
theorem dX10_passes_249 : decode cX10_passes 249 = .ok (.aload_n 0, 1) := by decide +kernel
theorem dX10_passes_250 : decode cX10_passes 250 = .ok (.iload_n 1, 1) := by decide +kernel
theorem dX10_passes_251 : decode cX10_passes 251 = .ok (.iconst 3, 1) := by decide +kernel
theorem dX10_passes_252 : decode cX10_passes 252 = .ok (.invokevirtual 230, 3) := by decide +kernel
theorem dX10_passes_255 : decode cX10_passes 255 = .ok (.return_, 1) := by decide +kernel
theorem dX10_makes_0 : decode cX10_makes 0 = .ok (.aload_n 0, 1) := by decide +kernel
theorem dX10_makes_1 : decode cX10_makes 1 = .ok (.getfield 115, 3) := by decide +kernel
theorem dX10_makes_4 : decode cX10_makes 4 = .ok (.sipush 2400, 3) := by decide +kernel
theorem dX10_makes_7 : decode cX10_makes 7 = .ok (.iload_n 1, 1) := by decide +kernel
theorem dX10_makes_8 : decode cX10_makes 8 = .ok (.imul, 1) := by decide +kernel
theorem dX10_makes_9 : decode cX10_makes 9 = .ok (.aload_n 0, 1) := by decide +kernel
theorem dX10_makes_10 : decode cX10_makes 10 = .ok (.getfield 84, 3) := by decide +kernel
theorem dX10_makes_13 : decode cX10_makes 13 = .ok (.iload_n 1, 1) := by decide +kernel
theorem dX10_makes_14 : decode cX10_makes 14 = .ok (.iaload, 1) := by decide +kernel
theorem dX10_makes_15 : decode cX10_makes 15 = .ok (.iadd, 1) := by decide +kernel
theorem dX10_makes_16 : decode cX10_makes 16 = .ok (.iload_n 2, 1) := by decide +kernel
theorem dX10_makes_17 : decode cX10_makes 17 = .ok (.iastore, 1) := by decide +kernel
theorem dX10_makes_18 : decode cX10_makes 18 = .ok (.aload_n 0, 1) := by decide +kernel
theorem dX10_makes_19 : decode cX10_makes 19 = .ok (.getfield 84, 3) := by decide +kernel
theorem dX10_makes_22 : decode cX10_makes 22 = .ok (.iload_n 1, 1) := by decide +kernel
theorem dX10_makes_23 : decode cX10_makes 23 = .ok (.dup2, 1) := by decide +kernel
theorem dX10_makes_24 : decode cX10_makes 24 = .ok (.iaload, 1) := by decide +kernel
theorem dX10_makes_25 : decode cX10_makes 25 = .ok (.iconst 1, 1) := by decide +kernel
theorem dX10_makes_26 : decode cX10_makes 26 = .ok (.iadd, 1) := by decide +kernel
theorem dX10_makes_27 : decode cX10_makes 27 = .ok (.iastore, 1) := by decide +kernel
theorem dX10_makes_28 : decode cX10_makes 28 = .ok (.aload_n 0, 1) := by decide +kernel
theorem dX10_makes_29 : decode cX10_makes 29 = .ok (.getfield 75, 3) := by decide +kernel
theorem dX10_makes_32 : decode cX10_makes 32 = .ok (.iload_n 1, 1) := by decide +kernel
theorem dX10_makes_33 : decode cX10_makes 33 = .ok (.dup2, 1) := by decide +kernel
theorem dX10_makes_34 : decode cX10_makes 34 = .ok (.iaload, 1) := by decide +kernel
theorem dX10_makes_35 : decode cX10_makes 35 = .ok (.iload_n 2, 1) := by decide +kernel
theorem dX10_makes_36 : decode cX10_makes 36 = .ok (.iadd, 1) := by decide +kernel
theorem dX10_makes_37 : decode cX10_makes 37 = .ok (.iastore, 1) := by decide +kernel
theorem dX10_makes_38 : decode cX10_makes 38 = .ok (.aload_n 0, 1) := by decide +kernel
theorem dX10_makes_39 : decode cX10_makes 39 = .ok (.getfield 72, 3) := by decide +kernel
theorem dX10_makes_42 : decode cX10_makes 42 = .ok (.iload_n 1, 1) := by decide +kernel
theorem dX10_makes_43 : decode cX10_makes 43 = .ok (.dup2, 1) := by decide +kernel
theorem dX10_makes_44 : decode cX10_makes 44 = .ok (.iaload, 1) := by decide +kernel
theorem dX10_makes_45 : decode cX10_makes 45 = .ok (.iload_n 2, 1) := by decide +kernel
theorem dX10_makes_46 : decode cX10_makes 46 = .ok (.iadd, 1) := by decide +kernel
theorem dX10_makes_47 : decode cX10_makes 47 = .ok (.iastore, 1) := by decide +kernel
theorem dX10_makes_48 : decode cX10_makes 48 = .ok (.aload_n 0, 1) := by decide +kernel
theorem dX10_makes_49 : decode cX10_makes 49 = .ok (.iload_n 1, 1) := by decide +kernel
theorem dX10_makes_50 : decode cX10_makes 50 = .ok (.invokevirtual 234, 3) := by decide +kernel
theorem dX10_makes_53 : decode cX10_makes 53 = .ok (.return_, 1) := by decide +kernel
theorem dX10_asks_0 : decode cX10_asks 0 = .ok (.aload_n 0, 1) := by decide +kernel
theorem dX10_asks_1 : decode cX10_asks 1 = .ok (.getfield 23, 3) := by decide +kernel
theorem dX10_asks_4 : decode cX10_asks 4 = .ok (.istore_n 3, 1) := by decide +kernel
theorem dX10_asks_5 : decode cX10_asks 5 = .ok (.aload_n 0, 1) := by decide +kernel
theorem dX10_asks_6 : decode cX10_asks 6 = .ok (.getfield 42, 3) := by decide +kernel
theorem dX10_asks_9 : decode cX10_asks 9 = .ok (.iload_n 1, 1) := by decide +kernel
theorem dX10_asks_10 : decode cX10_asks 10 = .ok (.iaload, 1) := by decide +kernel
theorem dX10_asks_11 : decode cX10_asks 11 = .ok (.aload_n 0, 1) := by decide +kernel
theorem dX10_asks_12 : decode cX10_asks 12 = .ok (.getfield 69, 3) := by decide +kernel
theorem dX10_asks_15 : decode cX10_asks 15 = .ok (.iload_n 1, 1) := by decide +kernel
theorem dX10_asks_16 : decode cX10_asks 16 = .ok (.iaload, 1) := by decide +kernel
theorem dX10_asks_17 : decode cX10_asks 17 = .ok (.iload_n 3, 1) := by decide +kernel
theorem dX10_asks_18 : decode cX10_asks 18 = .ok (.iadd, 1) := by decide +kernel
theorem dX10_asks_19 : decode cX10_asks 19 = .ok (.invokestatic 160, 3) := by decide +kernel
theorem dX10_asks_22 : decode cX10_asks 22 = .ok (.aload_n 0, 1) := by decide +kernel
theorem dX10_asks_23 : decode cX10_asks 23 = .ok (.getfield 72, 3) := by decide +kernel
theorem dX10_asks_26 : decode cX10_asks 26 = .ok (.iload_n 1, 1) := by decide +kernel
theorem dX10_asks_27 : decode cX10_asks 27 = .ok (.iaload, 1) := by decide +kernel
theorem dX10_asks_28 : decode cX10_asks 28 = .ok (.iload_n 2, 1) := by decide +kernel
theorem dX10_asks_29 : decode cX10_asks 29 = .ok (.iadd, 1) := by decide +kernel
theorem dX10_asks_30 : decode cX10_asks 30 = .ok (.if_icmp .ge 13, 3) := by decide +kernel
theorem dX10_asks_33 : decode cX10_asks 33 = .ok (.iload_n 3, 1) := by decide +kernel
theorem dX10_asks_34 : decode cX10_asks 34 = .ok (.aload_n 0, 1) := by decide +kernel
theorem dX10_asks_35 : decode cX10_asks 35 = .ok (.getfield 23, 3) := by decide +kernel
theorem dX10_asks_38 : decode cX10_asks 38 = .ok (.iadd, 1) := by decide +kernel
theorem dX10_asks_39 : decode cX10_asks 39 = .ok (.istore_n 3, 1) := by decide +kernel
theorem dX10_asks_40 : decode cX10_asks 40 = .ok (.goto (-35), 3) := by decide +kernel
theorem dX10_asks_43 : decode cX10_asks 43 = .ok (.aload_n 0, 1) := by decide +kernel
theorem dX10_asks_44 : decode cX10_asks 44 = .ok (.getfield 206, 3) := by decide +kernel
theorem dX10_asks_47 : decode cX10_asks 47 = .ok (.istore 4, 2) := by decide +kernel
theorem dX10_asks_49 : decode cX10_asks 49 = .ok (.iconst 0, 1) := by decide +kernel
theorem dX10_asks_50 : decode cX10_asks 50 = .ok (.istore 5, 2) := by decide +kernel
theorem dX10_asks_52 : decode cX10_asks 52 = .ok (.iload 5, 2) := by decide +kernel
theorem dX10_asks_54 : decode cX10_asks 54 = .ok (.aload_n 0, 1) := by decide +kernel
theorem dX10_asks_55 : decode cX10_asks 55 = .ok (.getfield 157, 3) := by decide +kernel
theorem dX10_asks_58 : decode cX10_asks 58 = .ok (.if_icmp .ge 30, 3) := by decide +kernel
theorem dX10_asks_61 : decode cX10_asks 61 = .ok (.iload 4, 2) := by decide +kernel
theorem dX10_asks_63 : decode cX10_asks 63 = .ok (.iload 5, 2) := by decide +kernel
theorem dX10_asks_65 : decode cX10_asks 65 = .ok (.iload_n 1, 1) := by decide +kernel
theorem dX10_asks_66 : decode cX10_asks 66 = .ok (.if_icmp .ne 7, 3) := by decide +kernel
theorem dX10_asks_69 : decode cX10_asks 69 = .ok (.iconst 0, 1) := by decide +kernel
theorem dX10_asks_70 : decode cX10_asks 70 = .ok (.goto 9, 3) := by decide +kernel
theorem dX10_asks_73 : decode cX10_asks 73 = .ok (.aload_n 0, 1) := by decide +kernel
theorem dX10_asks_74 : decode cX10_asks 74 = .ok (.iload 5, 2) := by decide +kernel
theorem dX10_asks_76 : decode cX10_asks 76 = .ok (.invokevirtual 238, 3) := by decide +kernel
theorem dX10_asks_79 : decode cX10_asks 79 = .ok (.iadd, 1) := by decide +kernel
theorem dX10_asks_80 : decode cX10_asks 80 = .ok (.istore 4, 2) := by decide +kernel
theorem dX10_asks_82 : decode cX10_asks 82 = .ok (.iinc 5 1, 3) := by decide +kernel
theorem dX10_asks_85 : decode cX10_asks 85 = .ok (.goto (-33), 3) := by decide +kernel
theorem dX10_asks_88 : decode cX10_asks 88 = .ok (.iload 4, 2) := by decide +kernel
theorem dX10_asks_90 : decode cX10_asks 90 = .ok (.iload_n 3, 1) := by decide +kernel
theorem dX10_asks_91 : decode cX10_asks 91 = .ok (.if_icmp .lt 32, 3) := by decide +kernel
theorem dX10_asks_94 : decode cX10_asks 94 = .ok (.aload_n 0, 1) := by decide +kernel
theorem dX10_asks_95 : decode cX10_asks 95 = .ok (.getfield 108, 3) := by decide +kernel
theorem dX10_asks_98 : decode cX10_asks 98 = .ok (.iload_n 1, 1) := by decide +kernel
theorem dX10_asks_99 : decode cX10_asks 99 = .ok (.baload, 1) := by decide +kernel
theorem dX10_asks_100 : decode cX10_asks 100 = .ok (.ifCond .eq 25, 3) := by decide +kernel
theorem dX10_asks_103 : decode cX10_asks 103 = .ok (.aload_n 0, 1) := by decide +kernel
theorem dX10_asks_104 : decode cX10_asks 104 = .ok (.getfield 69, 3) := by decide +kernel
theorem dX10_asks_107 : decode cX10_asks 107 = .ok (.iload_n 1, 1) := by decide +kernel
theorem dX10_asks_108 : decode cX10_asks 108 = .ok (.iaload, 1) := by decide +kernel
theorem dX10_asks_109 : decode cX10_asks 109 = .ok (.iload_n 3, 1) := by decide +kernel
theorem dX10_asks_110 : decode cX10_asks 110 = .ok (.iadd, 1) := by decide +kernel
theorem dX10_asks_111 : decode cX10_asks 111 = .ok (.aload_n 0, 1) := by decide +kernel
theorem dX10_asks_112 : decode cX10_asks 112 = .ok (.getfield 27, 3) := by decide +kernel
theorem dX10_asks_115 : decode cX10_asks 115 = .ok (.aload_n 0, 1) := by decide +kernel
theorem dX10_asks_116 : decode cX10_asks 116 = .ok (.getfield 157, 3) := by decide +kernel
theorem dX10_asks_119 : decode cX10_asks 119 = .ok (.idiv, 1) := by decide +kernel
theorem dX10_asks_120 : decode cX10_asks 120 = .ok (.if_icmp .le 5, 3) := by decide +kernel
theorem dX10_asks_123 : decode cX10_asks 123 = .ok (.iconst 0, 1) := by decide +kernel
theorem dX10_asks_124 : decode cX10_asks 124 = .ok (.ireturn, 1) := by decide +kernel
theorem dX10_asks_125 : decode cX10_asks 125 = .ok (.aload_n 0, 1) := by decide +kernel
theorem dX10_asks_126 : decode cX10_asks 126 = .ok (.getfield 206, 3) := by decide +kernel
theorem dX10_asks_129 : decode cX10_asks 129 = .ok (.iload_n 3, 1) := by decide +kernel
theorem dX10_asks_130 : decode cX10_asks 130 = .ok (.invokestatic 228, 3) := by decide +kernel
theorem dX10_asks_133 : decode cX10_asks 133 = .ok (.istore 5, 2) := by decide +kernel
theorem dX10_asks_135 : decode cX10_asks 135 = .ok (.aload_n 0, 1) := by decide +kernel
theorem dX10_asks_136 : decode cX10_asks 136 = .ok (.dup, 1) := by decide +kernel
theorem dX10_asks_137 : decode cX10_asks 137 = .ok (.getfield 206, 3) := by decide +kernel
theorem dX10_asks_140 : decode cX10_asks 140 = .ok (.iload 5, 2) := by decide +kernel
theorem dX10_asks_142 : decode cX10_asks 142 = .ok (.isub, 1) := by decide +kernel
theorem dX10_asks_143 : decode cX10_asks 143 = .ok (.putfield 206, 3) := by decide +kernel
theorem dX10_asks_146 : decode cX10_asks 146 = .ok (.iload_n 3, 1) := by decide +kernel
theorem dX10_asks_147 : decode cX10_asks 147 = .ok (.iload 5, 2) := by decide +kernel
theorem dX10_asks_149 : decode cX10_asks 149 = .ok (.isub, 1) := by decide +kernel
theorem dX10_asks_150 : decode cX10_asks 150 = .ok (.istore 6, 2) := by decide +kernel
theorem dX10_asks_152 : decode cX10_asks 152 = .ok (.iconst 0, 1) := by decide +kernel
theorem dX10_asks_153 : decode cX10_asks 153 = .ok (.istore 7, 2) := by decide +kernel
theorem dX10_asks_155 : decode cX10_asks 155 = .ok (.iload 7, 2) := by decide +kernel
theorem dX10_asks_157 : decode cX10_asks 157 = .ok (.aload_n 0, 1) := by decide +kernel
theorem dX10_asks_158 : decode cX10_asks 158 = .ok (.getfield 157, 3) := by decide +kernel
theorem dX10_asks_161 : decode cX10_asks 161 = .ok (.if_icmp .ge 71, 3) := by decide +kernel
theorem dX10_asks_164 : decode cX10_asks 164 = .ok (.iload 6, 2) := by decide +kernel
theorem dX10_asks_166 : decode cX10_asks 166 = .ok (.ifCond .le 66, 3) := by decide +kernel
theorem dX10_asks_169 : decode cX10_asks 169 = .ok (.iload 7, 2) := by decide +kernel
theorem dX10_asks_171 : decode cX10_asks 171 = .ok (.iload_n 1, 1) := by decide +kernel
theorem dX10_asks_172 : decode cX10_asks 172 = .ok (.if_icmp .eq 54, 3) := by decide +kernel
theorem dX10_asks_175 : decode cX10_asks 175 = .ok (.aload_n 0, 1) := by decide +kernel
theorem dX10_asks_176 : decode cX10_asks 176 = .ok (.getfield 66, 3) := by decide +kernel
theorem dX10_asks_179 : decode cX10_asks 179 = .ok (.iload 7, 2) := by decide +kernel
theorem dX10_asks_181 : decode cX10_asks 181 = .ok (.iaload, 1) := by decide +kernel
theorem dX10_asks_182 : decode cX10_asks 182 = .ok (.iconst 2, 1) := by decide +kernel
theorem dX10_asks_183 : decode cX10_asks 183 = .ok (.if_icmp .ne 43, 3) := by decide +kernel
theorem dX10_asks_186 : decode cX10_asks 186 = .ok (.aload_n 0, 1) := by decide +kernel
theorem dX10_asks_187 : decode cX10_asks 187 = .ok (.iload 7, 2) := by decide +kernel
theorem dX10_asks_189 : decode cX10_asks 189 = .ok (.invokevirtual 238, 3) := by decide +kernel
theorem dX10_asks_192 : decode cX10_asks 192 = .ok (.ifCond .ne 6, 3) := by decide +kernel
theorem dX10_asks_195 : decode cX10_asks 195 = .ok (.goto 31, 3) := by decide +kernel
theorem dX10_asks_198 : decode cX10_asks 198 = .ok (.aload_n 0, 1) := by decide +kernel
theorem dX10_asks_199 : decode cX10_asks 199 = .ok (.iload 7, 2) := by decide +kernel
theorem dX10_asks_201 : decode cX10_asks 201 = .ok (.invokevirtual 238, 3) := by decide +kernel
theorem dX10_asks_204 : decode cX10_asks 204 = .ok (.iload 6, 2) := by decide +kernel
theorem dX10_asks_206 : decode cX10_asks 206 = .ok (.invokestatic 228, 3) := by decide +kernel
theorem dX10_asks_209 : decode cX10_asks 209 = .ok (.istore 5, 2) := by decide +kernel
theorem dX10_asks_211 : decode cX10_asks 211 = .ok (.aload_n 0, 1) := by decide +kernel
theorem dX10_asks_212 : decode cX10_asks 212 = .ok (.iload 7, 2) := by decide +kernel
theorem dX10_asks_214 : decode cX10_asks 214 = .ok (.iload 5, 2) := by decide +kernel
theorem dX10_asks_216 : decode cX10_asks 216 = .ok (.invokevirtual 241, 3) := by decide +kernel
theorem dX10_asks_219 : decode cX10_asks 219 = .ok (.iload 6, 2) := by decide +kernel
theorem dX10_asks_221 : decode cX10_asks 221 = .ok (.iload 5, 2) := by decide +kernel
theorem dX10_asks_223 : decode cX10_asks 223 = .ok (.isub, 1) := by decide +kernel
theorem dX10_asks_224 : decode cX10_asks 224 = .ok (.istore 6, 2) := by decide +kernel
theorem dX10_asks_226 : decode cX10_asks 226 = .ok (.iinc 7 1, 3) := by decide +kernel
theorem dX10_asks_229 : decode cX10_asks 229 = .ok (.goto (-74), 3) := by decide +kernel
theorem dX10_asks_232 : decode cX10_asks 232 = .ok (.iload 6, 2) := by decide +kernel
theorem dX10_asks_234 : decode cX10_asks 234 = .ok (.ifCond .le 94, 3) := by decide +kernel
theorem dX10_asks_237 : decode cX10_asks 237 = .ok (.iconst (-1), 1) := by decide +kernel
theorem dX10_asks_238 : decode cX10_asks 238 = .ok (.istore 7, 2) := by decide +kernel
theorem dX10_asks_240 : decode cX10_asks 240 = .ok (.iconst 0, 1) := by decide +kernel
theorem dX10_asks_241 : decode cX10_asks 241 = .ok (.istore 8, 2) := by decide +kernel
theorem dX10_asks_243 : decode cX10_asks 243 = .ok (.iload 8, 2) := by decide +kernel
theorem dX10_asks_245 : decode cX10_asks 245 = .ok (.aload_n 0, 1) := by decide +kernel
theorem dX10_asks_246 : decode cX10_asks 246 = .ok (.getfield 157, 3) := by decide +kernel
theorem dX10_asks_249 : decode cX10_asks 249 = .ok (.if_icmp .ge 57, 3) := by decide +kernel
theorem dX10_asks_252 : decode cX10_asks 252 = .ok (.iload 8, 2) := by decide +kernel
theorem dX10_asks_254 : decode cX10_asks 254 = .ok (.iload_n 1, 1) := by decide +kernel
theorem dX10_asks_255 : decode cX10_asks 255 = .ok (.if_icmp .eq 45, 3) := by decide +kernel
theorem dX10_asks_258 : decode cX10_asks 258 = .ok (.aload_n 0, 1) := by decide +kernel
theorem dX10_asks_259 : decode cX10_asks 259 = .ok (.iload 8, 2) := by decide +kernel
theorem dX10_asks_261 : decode cX10_asks 261 = .ok (.invokevirtual 244, 3) := by decide +kernel
theorem dX10_asks_264 : decode cX10_asks 264 = .ok (.ifCond .eq 36, 3) := by decide +kernel
theorem dX10_asks_267 : decode cX10_asks 267 = .ok (.aload_n 0, 1) := by decide +kernel
theorem dX10_asks_268 : decode cX10_asks 268 = .ok (.iload 8, 2) := by decide +kernel
theorem dX10_asks_270 : decode cX10_asks 270 = .ok (.invokevirtual 238, 3) := by decide +kernel
theorem dX10_asks_273 : decode cX10_asks 273 = .ok (.ifCond .le 27, 3) := by decide +kernel
theorem dX10_asks_276 : decode cX10_asks 276 = .ok (.iload 7, 2) := by decide +kernel
theorem dX10_asks_278 : decode cX10_asks 278 = .ok (.ifCond .lt 18, 3) := by decide +kernel
theorem dX10_asks_281 : decode cX10_asks 281 = .ok (.aload_n 0, 1) := by decide +kernel
theorem dX10_asks_282 : decode cX10_asks 282 = .ok (.iload 8, 2) := by decide +kernel
theorem dX10_asks_284 : decode cX10_asks 284 = .ok (.invokevirtual 238, 3) := by decide +kernel
theorem dX10_asks_287 : decode cX10_asks 287 = .ok (.aload_n 0, 1) := by decide +kernel
theorem dX10_asks_288 : decode cX10_asks 288 = .ok (.iload 7, 2) := by decide +kernel
theorem dX10_asks_290 : decode cX10_asks 290 = .ok (.invokevirtual 238, 3) := by decide +kernel
theorem dX10_asks_293 : decode cX10_asks 293 = .ok (.if_icmp .le 7, 3) := by decide +kernel
theorem dX10_asks_296 : decode cX10_asks 296 = .ok (.iload 8, 2) := by decide +kernel
theorem dX10_asks_298 : decode cX10_asks 298 = .ok (.istore 7, 2) := by decide +kernel
theorem dX10_asks_300 : decode cX10_asks 300 = .ok (.iinc 8 1, 3) := by decide +kernel
theorem dX10_asks_303 : decode cX10_asks 303 = .ok (.goto (-60), 3) := by decide +kernel
theorem dX10_asks_306 : decode cX10_asks 306 = .ok (.aload_n 0, 1) := by decide +kernel
theorem dX10_asks_307 : decode cX10_asks 307 = .ok (.iload 7, 2) := by decide +kernel
theorem dX10_asks_309 : decode cX10_asks 309 = .ok (.aload_n 0, 1) := by decide +kernel
theorem dX10_asks_310 : decode cX10_asks 310 = .ok (.getfield 23, 3) := by decide +kernel
theorem dX10_asks_313 : decode cX10_asks 313 = .ok (.invokevirtual 241, 3) := by decide +kernel
theorem dX10_asks_316 : decode cX10_asks 316 = .ok (.iload 6, 2) := by decide +kernel
theorem dX10_asks_318 : decode cX10_asks 318 = .ok (.aload_n 0, 1) := by decide +kernel
theorem dX10_asks_319 : decode cX10_asks 319 = .ok (.getfield 23, 3) := by decide +kernel
theorem dX10_asks_322 : decode cX10_asks 322 = .ok (.isub, 1) := by decide +kernel
theorem dX10_asks_323 : decode cX10_asks 323 = .ok (.istore 6, 2) := by decide +kernel
theorem dX10_asks_325 : decode cX10_asks 325 = .ok (.goto (-93), 3) := by decide +kernel
theorem dX10_asks_328 : decode cX10_asks 328 = .ok (.aload_n 0, 1) := by decide +kernel
theorem dX10_asks_329 : decode cX10_asks 329 = .ok (.getfield 69, 3) := by decide +kernel
theorem dX10_asks_332 : decode cX10_asks 332 = .ok (.iload_n 1, 1) := by decide +kernel
theorem dX10_asks_333 : decode cX10_asks 333 = .ok (.dup2, 1) := by decide +kernel
theorem dX10_asks_334 : decode cX10_asks 334 = .ok (.iaload, 1) := by decide +kernel
theorem dX10_asks_335 : decode cX10_asks 335 = .ok (.iload_n 3, 1) := by decide +kernel
theorem dX10_asks_336 : decode cX10_asks 336 = .ok (.iadd, 1) := by decide +kernel
theorem dX10_asks_337 : decode cX10_asks 337 = .ok (.iastore, 1) := by decide +kernel
theorem dX10_asks_338 : decode cX10_asks 338 = .ok (.aload_n 0, 1) := by decide +kernel
theorem dX10_asks_339 : decode cX10_asks 339 = .ok (.iload_n 1, 1) := by decide +kernel
theorem dX10_asks_340 : decode cX10_asks 340 = .ok (.iconst 1, 1) := by decide +kernel
theorem dX10_asks_341 : decode cX10_asks 341 = .ok (.iload_n 3, 1) := by decide +kernel
theorem dX10_asks_342 : decode cX10_asks 342 = .ok (.invokevirtual 215, 3) := by decide +kernel
theorem dX10_asks_345 : decode cX10_asks 345 = .ok (.iconst 1, 1) := by decide +kernel
theorem dX10_asks_346 : decode cX10_asks 346 = .ok (.ireturn, 1) := by decide +kernel
theorem dX10_acts_0 : decode cX10_acts 0 = .ok (.aload_n 0, 1) := by decide +kernel
theorem dX10_acts_1 : decode cX10_acts 1 = .ok (.getfield 39, 3) := by decide +kernel
theorem dX10_acts_4 : decode cX10_acts 4 = .ok (.bipush 60, 2) := by decide +kernel
theorem dX10_acts_6 : decode cX10_acts 6 = .ok (.iload_n 1, 1) := by decide +kernel
theorem dX10_acts_7 : decode cX10_acts 7 = .ok (.imul, 1) := by decide +kernel
theorem dX10_acts_8 : decode cX10_acts 8 = .ok (.aload_n 0, 1) := by decide +kernel
theorem dX10_acts_9 : decode cX10_acts 9 = .ok (.getfield 81, 3) := by decide +kernel
theorem dX10_acts_12 : decode cX10_acts 12 = .ok (.iload_n 1, 1) := by decide +kernel
theorem dX10_acts_13 : decode cX10_acts 13 = .ok (.iaload, 1) := by decide +kernel
theorem dX10_acts_14 : decode cX10_acts 14 = .ok (.iadd, 1) := by decide +kernel
theorem dX10_acts_15 : decode cX10_acts 15 = .ok (.iaload, 1) := by decide +kernel
theorem dX10_acts_16 : decode cX10_acts 16 = .ok (.istore_n 2, 1) := by decide +kernel
theorem dX10_acts_17 : decode cX10_acts 17 = .ok (.iload_n 2, 1) := by decide +kernel
theorem dX10_acts_18 : decode cX10_acts 18 = .ok (.sipush 1001, 3) := by decide +kernel
theorem dX10_acts_21 : decode cX10_acts 21 = .ok (.if_icmp .le 22, 3) := by decide +kernel
theorem dX10_acts_24 : decode cX10_acts 24 = .ok (.aload_n 0, 1) := by decide +kernel
theorem dX10_acts_25 : decode cX10_acts 25 = .ok (.getfield 66, 3) := by decide +kernel
theorem dX10_acts_28 : decode cX10_acts 28 = .ok (.iload_n 1, 1) := by decide +kernel
theorem dX10_acts_29 : decode cX10_acts 29 = .ok (.iconst 2, 1) := by decide +kernel
theorem dX10_acts_30 : decode cX10_acts 30 = .ok (.iastore, 1) := by decide +kernel
theorem dX10_acts_31 : decode cX10_acts 31 = .ok (.aload_n 0, 1) := by decide +kernel
theorem dX10_acts_32 : decode cX10_acts 32 = .ok (.getfield 93, 3) := by decide +kernel
theorem dX10_acts_35 : decode cX10_acts 35 = .ok (.iload_n 1, 1) := by decide +kernel
theorem dX10_acts_36 : decode cX10_acts 36 = .ok (.iload_n 2, 1) := by decide +kernel
theorem dX10_acts_37 : decode cX10_acts 37 = .ok (.sipush 1001, 3) := by decide +kernel
theorem dX10_acts_40 : decode cX10_acts 40 = .ok (.isub, 1) := by decide +kernel
theorem dX10_acts_41 : decode cX10_acts 41 = .ok (.iastore, 1) := by decide +kernel
theorem dX10_acts_42 : decode cX10_acts 42 = .ok (.return_, 1) := by decide +kernel
theorem dX10_acts_43 : decode cX10_acts 43 = .ok (.iload_n 2, 1) := by decide +kernel
theorem dX10_acts_44 : decode cX10_acts 44 = .ok (.ifCond .ge 62, 3) := by decide +kernel
theorem dX10_acts_47 : decode cX10_acts 47 = .ok (.aload_n 0, 1) := by decide +kernel
theorem dX10_acts_48 : decode cX10_acts 48 = .ok (.getfield 84, 3) := by decide +kernel
theorem dX10_acts_51 : decode cX10_acts 51 = .ok (.iload_n 1, 1) := by decide +kernel
theorem dX10_acts_52 : decode cX10_acts 52 = .ok (.iaload, 1) := by decide +kernel
theorem dX10_acts_53 : decode cX10_acts 53 = .ok (.iload_n 2, 1) := by decide +kernel
theorem dX10_acts_54 : decode cX10_acts 54 = .ok (.iadd, 1) := by decide +kernel
theorem dX10_acts_55 : decode cX10_acts 55 = .ok (.ifCond .lt 51, 3) := by decide +kernel
theorem dX10_acts_58 : decode cX10_acts 58 = .ok (.aload_n 0, 1) := by decide +kernel
theorem dX10_acts_59 : decode cX10_acts 59 = .ok (.getfield 75, 3) := by decide +kernel
theorem dX10_acts_62 : decode cX10_acts 62 = .ok (.iload_n 1, 1) := by decide +kernel
theorem dX10_acts_63 : decode cX10_acts 63 = .ok (.dup2, 1) := by decide +kernel
theorem dX10_acts_64 : decode cX10_acts 64 = .ok (.iaload, 1) := by decide +kernel
theorem dX10_acts_65 : decode cX10_acts 65 = .ok (.aload_n 0, 1) := by decide +kernel
theorem dX10_acts_66 : decode cX10_acts 66 = .ok (.getfield 115, 3) := by decide +kernel
theorem dX10_acts_69 : decode cX10_acts 69 = .ok (.sipush 2400, 3) := by decide +kernel
theorem dX10_acts_72 : decode cX10_acts 72 = .ok (.iload_n 1, 1) := by decide +kernel
theorem dX10_acts_73 : decode cX10_acts 73 = .ok (.imul, 1) := by decide +kernel
theorem dX10_acts_74 : decode cX10_acts 74 = .ok (.aload_n 0, 1) := by decide +kernel
theorem dX10_acts_75 : decode cX10_acts 75 = .ok (.getfield 84, 3) := by decide +kernel
theorem dX10_acts_78 : decode cX10_acts 78 = .ok (.iload_n 1, 1) := by decide +kernel
theorem dX10_acts_79 : decode cX10_acts 79 = .ok (.iaload, 1) := by decide +kernel
theorem dX10_acts_80 : decode cX10_acts 80 = .ok (.iadd, 1) := by decide +kernel
theorem dX10_acts_81 : decode cX10_acts 81 = .ok (.iload_n 2, 1) := by decide +kernel
theorem dX10_acts_82 : decode cX10_acts 82 = .ok (.iadd, 1) := by decide +kernel
theorem dX10_acts_83 : decode cX10_acts 83 = .ok (.iaload, 1) := by decide +kernel
theorem dX10_acts_84 : decode cX10_acts 84 = .ok (.isub, 1) := by decide +kernel
theorem dX10_acts_85 : decode cX10_acts 85 = .ok (.iastore, 1) := by decide +kernel
theorem dX10_acts_86 : decode cX10_acts 86 = .ok (.aload_n 0, 1) := by decide +kernel
theorem dX10_acts_87 : decode cX10_acts 87 = .ok (.getfield 115, 3) := by decide +kernel
theorem dX10_acts_90 : decode cX10_acts 90 = .ok (.sipush 2400, 3) := by decide +kernel
theorem dX10_acts_93 : decode cX10_acts 93 = .ok (.iload_n 1, 1) := by decide +kernel
theorem dX10_acts_94 : decode cX10_acts 94 = .ok (.imul, 1) := by decide +kernel
theorem dX10_acts_95 : decode cX10_acts 95 = .ok (.aload_n 0, 1) := by decide +kernel
theorem dX10_acts_96 : decode cX10_acts 96 = .ok (.getfield 84, 3) := by decide +kernel
theorem dX10_acts_99 : decode cX10_acts 99 = .ok (.iload_n 1, 1) := by decide +kernel
theorem dX10_acts_100 : decode cX10_acts 100 = .ok (.iaload, 1) := by decide +kernel
theorem dX10_acts_101 : decode cX10_acts 101 = .ok (.iadd, 1) := by decide +kernel
theorem dX10_acts_102 : decode cX10_acts 102 = .ok (.iload_n 2, 1) := by decide +kernel
theorem dX10_acts_103 : decode cX10_acts 103 = .ok (.iadd, 1) := by decide +kernel
theorem dX10_acts_104 : decode cX10_acts 104 = .ok (.iconst 0, 1) := by decide +kernel
theorem dX10_acts_105 : decode cX10_acts 105 = .ok (.iastore, 1) := by decide +kernel
theorem dX10_acts_106 : decode cX10_acts 106 = .ok (.iload_n 2, 1) := by decide +kernel
theorem dX10_acts_107 : decode cX10_acts 107 = .ok (.ifCond .le 10, 3) := by decide +kernel
theorem dX10_acts_110 : decode cX10_acts 110 = .ok (.iload_n 2, 1) := by decide +kernel
theorem dX10_acts_111 : decode cX10_acts 111 = .ok (.sipush 1001, 3) := by decide +kernel
theorem dX10_acts_114 : decode cX10_acts 114 = .ok (.if_icmp .ne 9, 3) := by decide +kernel
theorem dX10_acts_117 : decode cX10_acts 117 = .ok (.aload_n 0, 1) := by decide +kernel
theorem dX10_acts_118 : decode cX10_acts 118 = .ok (.iload_n 1, 1) := by decide +kernel
theorem dX10_acts_119 : decode cX10_acts 119 = .ok (.invokevirtual 234, 3) := by decide +kernel
theorem dX10_acts_122 : decode cX10_acts 122 = .ok (.return_, 1) := by decide +kernel
theorem dX10_acts_123 : decode cX10_acts 123 = .ok (.aload_n 0, 1) := by decide +kernel
theorem dX10_acts_124 : decode cX10_acts 124 = .ok (.getfield 72, 3) := by decide +kernel
theorem dX10_acts_127 : decode cX10_acts 127 = .ok (.iload_n 1, 1) := by decide +kernel
theorem dX10_acts_128 : decode cX10_acts 128 = .ok (.iaload, 1) := by decide +kernel
theorem dX10_acts_129 : decode cX10_acts 129 = .ok (.iload_n 2, 1) := by decide +kernel
theorem dX10_acts_130 : decode cX10_acts 130 = .ok (.iadd, 1) := by decide +kernel
theorem dX10_acts_131 : decode cX10_acts 131 = .ok (.aload_n 0, 1) := by decide +kernel
theorem dX10_acts_132 : decode cX10_acts 132 = .ok (.getfield 42, 3) := by decide +kernel
theorem dX10_acts_135 : decode cX10_acts 135 = .ok (.iload_n 1, 1) := by decide +kernel
theorem dX10_acts_136 : decode cX10_acts 136 = .ok (.iaload, 1) := by decide +kernel
theorem dX10_acts_137 : decode cX10_acts 137 = .ok (.aload_n 0, 1) := by decide +kernel
theorem dX10_acts_138 : decode cX10_acts 138 = .ok (.getfield 69, 3) := by decide +kernel
theorem dX10_acts_141 : decode cX10_acts 141 = .ok (.iload_n 1, 1) := by decide +kernel
theorem dX10_acts_142 : decode cX10_acts 142 = .ok (.iaload, 1) := by decide +kernel
theorem dX10_acts_143 : decode cX10_acts 143 = .ok (.invokestatic 160, 3) := by decide +kernel
theorem dX10_acts_146 : decode cX10_acts 146 = .ok (.if_icmp .gt 12, 3) := by decide +kernel
theorem dX10_acts_149 : decode cX10_acts 149 = .ok (.aload_n 0, 1) := by decide +kernel
theorem dX10_acts_150 : decode cX10_acts 150 = .ok (.iload_n 1, 1) := by decide +kernel
theorem dX10_acts_151 : decode cX10_acts 151 = .ok (.iload_n 2, 1) := by decide +kernel
theorem dX10_acts_152 : decode cX10_acts 152 = .ok (.invokevirtual 247, 3) := by decide +kernel
theorem dX10_acts_155 : decode cX10_acts 155 = .ok (.goto 78, 3) := by decide +kernel
theorem dX10_acts_158 : decode cX10_acts 158 = .ok (.aload_n 0, 1) := by decide +kernel
theorem dX10_acts_159 : decode cX10_acts 159 = .ok (.getfield 72, 3) := by decide +kernel
theorem dX10_acts_162 : decode cX10_acts 162 = .ok (.iload_n 1, 1) := by decide +kernel
theorem dX10_acts_163 : decode cX10_acts 163 = .ok (.iaload, 1) := by decide +kernel
theorem dX10_acts_164 : decode cX10_acts 164 = .ok (.aload_n 0, 1) := by decide +kernel
theorem dX10_acts_165 : decode cX10_acts 165 = .ok (.getfield 75, 3) := by decide +kernel
theorem dX10_acts_168 : decode cX10_acts 168 = .ok (.iload_n 1, 1) := by decide +kernel
theorem dX10_acts_169 : decode cX10_acts 169 = .ok (.iaload, 1) := by decide +kernel
theorem dX10_acts_170 : decode cX10_acts 170 = .ok (.if_icmp .le 39, 3) := by decide +kernel
theorem dX10_acts_173 : decode cX10_acts 173 = .ok (.aload_n 0, 1) := by decide +kernel
theorem dX10_acts_174 : decode cX10_acts 174 = .ok (.getfield 93, 3) := by decide +kernel
theorem dX10_acts_177 : decode cX10_acts 177 = .ok (.iload_n 1, 1) := by decide +kernel
theorem dX10_acts_178 : decode cX10_acts 178 = .ok (.aload_n 0, 1) := by decide +kernel
theorem dX10_acts_179 : decode cX10_acts 179 = .ok (.iload_n 1, 1) := by decide +kernel
theorem dX10_acts_180 : decode cX10_acts 180 = .ok (.invokevirtual 225, 3) := by decide +kernel
theorem dX10_acts_183 : decode cX10_acts 183 = .ok (.iconst 1, 1) := by decide +kernel
theorem dX10_acts_184 : decode cX10_acts 184 = .ok (.isub, 1) := by decide +kernel
theorem dX10_acts_185 : decode cX10_acts 185 = .ok (.iastore, 1) := by decide +kernel
theorem dX10_acts_186 : decode cX10_acts 186 = .ok (.aload_n 0, 1) := by decide +kernel
theorem dX10_acts_187 : decode cX10_acts 187 = .ok (.getfield 66, 3) := by decide +kernel
theorem dX10_acts_190 : decode cX10_acts 190 = .ok (.iload_n 1, 1) := by decide +kernel
theorem dX10_acts_191 : decode cX10_acts 191 = .ok (.aload_n 0, 1) := by decide +kernel
theorem dX10_acts_192 : decode cX10_acts 192 = .ok (.getfield 93, 3) := by decide +kernel
theorem dX10_acts_195 : decode cX10_acts 195 = .ok (.iload_n 1, 1) := by decide +kernel
theorem dX10_acts_196 : decode cX10_acts 196 = .ok (.iaload, 1) := by decide +kernel
theorem dX10_acts_197 : decode cX10_acts 197 = .ok (.ifCond .le 7, 3) := by decide +kernel
theorem dX10_acts_200 : decode cX10_acts 200 = .ok (.iconst 1, 1) := by decide +kernel
theorem dX10_acts_201 : decode cX10_acts 201 = .ok (.goto 4, 3) := by decide +kernel
theorem dX10_acts_204 : decode cX10_acts 204 = .ok (.iconst 0, 1) := by decide +kernel
theorem dX10_acts_205 : decode cX10_acts 205 = .ok (.iastore, 1) := by decide +kernel
theorem dX10_acts_206 : decode cX10_acts 206 = .ok (.goto 27, 3) := by decide +kernel
theorem dX10_acts_209 : decode cX10_acts 209 = .ok (.aload_n 0, 1) := by decide +kernel
theorem dX10_acts_210 : decode cX10_acts 210 = .ok (.iload_n 1, 1) := by decide +kernel
theorem dX10_acts_211 : decode cX10_acts 211 = .ok (.iload_n 2, 1) := by decide +kernel
theorem dX10_acts_212 : decode cX10_acts 212 = .ok (.invokevirtual 249, 3) := by decide +kernel
theorem dX10_acts_215 : decode cX10_acts 215 = .ok (.ifCond .eq 12, 3) := by decide +kernel
theorem dX10_acts_218 : decode cX10_acts 218 = .ok (.aload_n 0, 1) := by decide +kernel
theorem dX10_acts_219 : decode cX10_acts 219 = .ok (.iload_n 1, 1) := by decide +kernel
theorem dX10_acts_220 : decode cX10_acts 220 = .ok (.iload_n 2, 1) := by decide +kernel
theorem dX10_acts_221 : decode cX10_acts 221 = .ok (.invokevirtual 247, 3) := by decide +kernel
theorem dX10_acts_224 : decode cX10_acts 224 = .ok (.goto 9, 3) := by decide +kernel
theorem dX10_acts_227 : decode cX10_acts 227 = .ok (.aload_n 0, 1) := by decide +kernel
theorem dX10_acts_228 : decode cX10_acts 228 = .ok (.iload_n 1, 1) := by decide +kernel
theorem dX10_acts_229 : decode cX10_acts 229 = .ok (.iconst 4, 1) := by decide +kernel
theorem dX10_acts_230 : decode cX10_acts 230 = .ok (.invokevirtual 230, 3) := by decide +kernel
theorem dX10_acts_233 : decode cX10_acts 233 = .ok (.return_, 1) := by decide +kernel
theorem dX10_ticks_0 : decode cX10_ticks 0 = .ok (.aload_n 0, 1) := by decide +kernel
theorem dX10_ticks_1 : decode cX10_ticks 1 = .ok (.dup, 1) := by decide +kernel
theorem dX10_ticks_2 : decode cX10_ticks 2 = .ok (.getfield 203, 3) := by decide +kernel
theorem dX10_ticks_5 : decode cX10_ticks 5 = .ok (.iconst 1, 1) := by decide +kernel
theorem dX10_ticks_6 : decode cX10_ticks 6 = .ok (.iadd, 1) := by decide +kernel
theorem dX10_ticks_7 : decode cX10_ticks 7 = .ok (.putfield 203, 3) := by decide +kernel
theorem dX10_ticks_10 : decode cX10_ticks 10 = .ok (.iconst 0, 1) := by decide +kernel
theorem dX10_ticks_11 : decode cX10_ticks 11 = .ok (.istore_n 1, 1) := by decide +kernel
theorem dX10_ticks_12 : decode cX10_ticks 12 = .ok (.iload_n 1, 1) := by decide +kernel
theorem dX10_ticks_13 : decode cX10_ticks 13 = .ok (.aload_n 0, 1) := by decide +kernel
theorem dX10_ticks_14 : decode cX10_ticks 14 = .ok (.getfield 157, 3) := by decide +kernel
theorem dX10_ticks_17 : decode cX10_ticks 17 = .ok (.if_icmp .ge 99, 3) := by decide +kernel
theorem dX10_ticks_20 : decode cX10_ticks 20 = .ok (.aload_n 0, 1) := by decide +kernel
theorem dX10_ticks_21 : decode cX10_ticks 21 = .ok (.getfield 66, 3) := by decide +kernel
theorem dX10_ticks_24 : decode cX10_ticks 24 = .ok (.iload_n 1, 1) := by decide +kernel
theorem dX10_ticks_25 : decode cX10_ticks 25 = .ok (.iaload, 1) := by decide +kernel
theorem dX10_ticks_26 : decode cX10_ticks 26 = .ok (.ifCond .ne 11, 3) := by decide +kernel
theorem dX10_ticks_29 : decode cX10_ticks 29 = .ok (.aload_n 0, 1) := by decide +kernel
theorem dX10_ticks_30 : decode cX10_ticks 30 = .ok (.iload_n 1, 1) := by decide +kernel
theorem dX10_ticks_31 : decode cX10_ticks 31 = .ok (.invokevirtual 253, 3) := by decide +kernel
theorem dX10_ticks_34 : decode cX10_ticks 34 = .ok (.goto 76, 3) := by decide +kernel
theorem dX10_ticks_37 : decode cX10_ticks 37 = .ok (.aload_n 0, 1) := by decide +kernel
theorem dX10_ticks_38 : decode cX10_ticks 38 = .ok (.getfield 66, 3) := by decide +kernel
theorem dX10_ticks_41 : decode cX10_ticks 41 = .ok (.iload_n 1, 1) := by decide +kernel
theorem dX10_ticks_42 : decode cX10_ticks 42 = .ok (.iaload, 1) := by decide +kernel
theorem dX10_ticks_43 : decode cX10_ticks 43 = .ok (.iconst 1, 1) := by decide +kernel
theorem dX10_ticks_44 : decode cX10_ticks 44 = .ok (.if_icmp .ne 32, 3) := by decide +kernel
theorem dX10_ticks_47 : decode cX10_ticks 47 = .ok (.aload_n 0, 1) := by decide +kernel
theorem dX10_ticks_48 : decode cX10_ticks 48 = .ok (.getfield 93, 3) := by decide +kernel
theorem dX10_ticks_51 : decode cX10_ticks 51 = .ok (.iload_n 1, 1) := by decide +kernel
theorem dX10_ticks_52 : decode cX10_ticks 52 = .ok (.dup2, 1) := by decide +kernel
theorem dX10_ticks_53 : decode cX10_ticks 53 = .ok (.iaload, 1) := by decide +kernel
theorem dX10_ticks_54 : decode cX10_ticks 54 = .ok (.iconst 1, 1) := by decide +kernel
theorem dX10_ticks_55 : decode cX10_ticks 55 = .ok (.isub, 1) := by decide +kernel
theorem dX10_ticks_56 : decode cX10_ticks 56 = .ok (.iastore, 1) := by decide +kernel
theorem dX10_ticks_57 : decode cX10_ticks 57 = .ok (.aload_n 0, 1) := by decide +kernel
theorem dX10_ticks_58 : decode cX10_ticks 58 = .ok (.getfield 93, 3) := by decide +kernel
theorem dX10_ticks_61 : decode cX10_ticks 61 = .ok (.iload_n 1, 1) := by decide +kernel
theorem dX10_ticks_62 : decode cX10_ticks 62 = .ok (.iaload, 1) := by decide +kernel
theorem dX10_ticks_63 : decode cX10_ticks 63 = .ok (.ifCond .ne 47, 3) := by decide +kernel
theorem dX10_ticks_66 : decode cX10_ticks 66 = .ok (.aload_n 0, 1) := by decide +kernel
theorem dX10_ticks_67 : decode cX10_ticks 67 = .ok (.getfield 66, 3) := by decide +kernel
theorem dX10_ticks_70 : decode cX10_ticks 70 = .ok (.iload_n 1, 1) := by decide +kernel
theorem dX10_ticks_71 : decode cX10_ticks 71 = .ok (.iconst 0, 1) := by decide +kernel
theorem dX10_ticks_72 : decode cX10_ticks 72 = .ok (.iastore, 1) := by decide +kernel
theorem dX10_ticks_73 : decode cX10_ticks 73 = .ok (.goto 37, 3) := by decide +kernel
theorem dX10_ticks_76 : decode cX10_ticks 76 = .ok (.aload_n 0, 1) := by decide +kernel
theorem dX10_ticks_77 : decode cX10_ticks 77 = .ok (.getfield 66, 3) := by decide +kernel
theorem dX10_ticks_80 : decode cX10_ticks 80 = .ok (.iload_n 1, 1) := by decide +kernel
theorem dX10_ticks_81 : decode cX10_ticks 81 = .ok (.iaload, 1) := by decide +kernel
theorem dX10_ticks_82 : decode cX10_ticks 82 = .ok (.iconst 2, 1) := by decide +kernel
theorem dX10_ticks_83 : decode cX10_ticks 83 = .ok (.if_icmp .ne 27, 3) := by decide +kernel
theorem dX10_ticks_86 : decode cX10_ticks 86 = .ok (.aload_n 0, 1) := by decide +kernel
theorem dX10_ticks_87 : decode cX10_ticks 87 = .ok (.getfield 93, 3) := by decide +kernel
theorem dX10_ticks_90 : decode cX10_ticks 90 = .ok (.iload_n 1, 1) := by decide +kernel
theorem dX10_ticks_91 : decode cX10_ticks 91 = .ok (.dup2, 1) := by decide +kernel
theorem dX10_ticks_92 : decode cX10_ticks 92 = .ok (.iaload, 1) := by decide +kernel
theorem dX10_ticks_93 : decode cX10_ticks 93 = .ok (.iconst 1, 1) := by decide +kernel
theorem dX10_ticks_94 : decode cX10_ticks 94 = .ok (.isub, 1) := by decide +kernel
theorem dX10_ticks_95 : decode cX10_ticks 95 = .ok (.iastore, 1) := by decide +kernel
theorem dX10_ticks_96 : decode cX10_ticks 96 = .ok (.aload_n 0, 1) := by decide +kernel
theorem dX10_ticks_97 : decode cX10_ticks 97 = .ok (.getfield 93, 3) := by decide +kernel
theorem dX10_ticks_100 : decode cX10_ticks 100 = .ok (.iload_n 1, 1) := by decide +kernel
theorem dX10_ticks_101 : decode cX10_ticks 101 = .ok (.iaload, 1) := by decide +kernel
theorem dX10_ticks_102 : decode cX10_ticks 102 = .ok (.ifCond .ne 8, 3) := by decide +kernel
theorem dX10_ticks_105 : decode cX10_ticks 105 = .ok (.aload_n 0, 1) := by decide +kernel
theorem dX10_ticks_106 : decode cX10_ticks 106 = .ok (.iload_n 1, 1) := by decide +kernel
theorem dX10_ticks_107 : decode cX10_ticks 107 = .ok (.invokevirtual 234, 3) := by decide +kernel
theorem dX10_ticks_110 : decode cX10_ticks 110 = .ok (.iinc 1 1, 3) := by decide +kernel
theorem dX10_ticks_113 : decode cX10_ticks 113 = .ok (.goto (-101), 3) := by decide +kernel
theorem dX10_ticks_116 : decode cX10_ticks 116 = .ok (.aload_n 0, 1) := by decide +kernel
theorem dX10_ticks_117 : decode cX10_ticks 117 = .ok (.getfield 203, 3) := by decide +kernel
theorem dX10_ticks_120 : decode cX10_ticks 120 = .ok (.aload_n 0, 1) := by decide +kernel
theorem dX10_ticks_121 : decode cX10_ticks 121 = .ok (.getfield 30, 3) := by decide +kernel
theorem dX10_ticks_124 : decode cX10_ticks 124 = .ok (.irem, 1) := by decide +kernel
theorem dX10_ticks_125 : decode cX10_ticks 125 = .ok (.ifCond .ne 7, 3) := by decide +kernel
theorem dX10_ticks_128 : decode cX10_ticks 128 = .ok (.aload_n 0, 1) := by decide +kernel
theorem dX10_ticks_129 : decode cX10_ticks 129 = .ok (.invokevirtual 256, 3) := by decide +kernel
theorem dX10_ticks_132 : decode cX10_ticks 132 = .ok (.return_, 1) := by decide +kernel
theorem dX10_redeals_0 : decode cX10_redeals 0 = .ok (.iconst 0, 1) := by decide +kernel
theorem dX10_redeals_1 : decode cX10_redeals 1 = .ok (.istore_n 1, 1) := by decide +kernel
theorem dX10_redeals_2 : decode cX10_redeals 2 = .ok (.iload_n 1, 1) := by decide +kernel
theorem dX10_redeals_3 : decode cX10_redeals 3 = .ok (.aload_n 0, 1) := by decide +kernel
theorem dX10_redeals_4 : decode cX10_redeals 4 = .ok (.getfield 157, 3) := by decide +kernel
theorem dX10_redeals_7 : decode cX10_redeals 7 = .ok (.if_icmp .ge 104, 3) := by decide +kernel
theorem dX10_redeals_10 : decode cX10_redeals 10 = .ok (.aload_n 0, 1) := by decide +kernel
theorem dX10_redeals_11 : decode cX10_redeals 11 = .ok (.getfield 66, 3) := by decide +kernel
theorem dX10_redeals_14 : decode cX10_redeals 14 = .ok (.iload_n 1, 1) := by decide +kernel
theorem dX10_redeals_15 : decode cX10_redeals 15 = .ok (.iaload, 1) := by decide +kernel
theorem dX10_redeals_16 : decode cX10_redeals 16 = .ok (.iconst 2, 1) := by decide +kernel
theorem dX10_redeals_17 : decode cX10_redeals 17 = .ok (.if_icmp .ne 88, 3) := by decide +kernel
theorem dX10_redeals_20 : decode cX10_redeals 20 = .ok (.aload_n 0, 1) := by decide +kernel
theorem dX10_redeals_21 : decode cX10_redeals 21 = .ok (.getfield 112, 3) := by decide +kernel
theorem dX10_redeals_24 : decode cX10_redeals 24 = .ok (.iload_n 1, 1) := by decide +kernel
theorem dX10_redeals_25 : decode cX10_redeals 25 = .ok (.baload, 1) := by decide +kernel
theorem dX10_redeals_26 : decode cX10_redeals 26 = .ok (.ifCond .eq 6, 3) := by decide +kernel
theorem dX10_redeals_29 : decode cX10_redeals 29 = .ok (.goto 76, 3) := by decide +kernel
theorem dX10_redeals_32 : decode cX10_redeals 32 = .ok (.aload_n 0, 1) := by decide +kernel
theorem dX10_redeals_33 : decode cX10_redeals 33 = .ok (.getfield 112, 3) := by decide +kernel
theorem dX10_redeals_36 : decode cX10_redeals 36 = .ok (.iload_n 1, 1) := by decide +kernel
theorem dX10_redeals_37 : decode cX10_redeals 37 = .ok (.iconst 1, 1) := by decide +kernel
theorem dX10_redeals_38 : decode cX10_redeals 38 = .ok (.bastore, 1) := by decide +kernel
theorem dX10_redeals_39 : decode cX10_redeals 39 = .ok (.aload_n 0, 1) := by decide +kernel
theorem dX10_redeals_40 : decode cX10_redeals 40 = .ok (.getfield 99, 3) := by decide +kernel
theorem dX10_redeals_43 : decode cX10_redeals 43 = .ok (.iload_n 1, 1) := by decide +kernel
theorem dX10_redeals_44 : decode cX10_redeals 44 = .ok (.aload_n 0, 1) := by decide +kernel
theorem dX10_redeals_45 : decode cX10_redeals 45 = .ok (.getfield 69, 3) := by decide +kernel
theorem dX10_redeals_48 : decode cX10_redeals 48 = .ok (.iload_n 1, 1) := by decide +kernel
theorem dX10_redeals_49 : decode cX10_redeals 49 = .ok (.iaload, 1) := by decide +kernel
theorem dX10_redeals_50 : decode cX10_redeals 50 = .ok (.iastore, 1) := by decide +kernel
theorem dX10_redeals_51 : decode cX10_redeals 51 = .ok (.aload_n 0, 1) := by decide +kernel
theorem dX10_redeals_52 : decode cX10_redeals 52 = .ok (.getfield 72, 3) := by decide +kernel
theorem dX10_redeals_55 : decode cX10_redeals 55 = .ok (.iload_n 1, 1) := by decide +kernel
theorem dX10_redeals_56 : decode cX10_redeals 56 = .ok (.iaload, 1) := by decide +kernel
theorem dX10_redeals_57 : decode cX10_redeals 57 = .ok (.aload_n 0, 1) := by decide +kernel
theorem dX10_redeals_58 : decode cX10_redeals 58 = .ok (.getfield 75, 3) := by decide +kernel
theorem dX10_redeals_61 : decode cX10_redeals 61 = .ok (.iload_n 1, 1) := by decide +kernel
theorem dX10_redeals_62 : decode cX10_redeals 62 = .ok (.iaload, 1) := by decide +kernel
theorem dX10_redeals_63 : decode cX10_redeals 63 = .ok (.if_icmp .le 9, 3) := by decide +kernel
theorem dX10_redeals_66 : decode cX10_redeals 66 = .ok (.aload_n 0, 1) := by decide +kernel
theorem dX10_redeals_67 : decode cX10_redeals 67 = .ok (.iload_n 1, 1) := by decide +kernel
theorem dX10_redeals_68 : decode cX10_redeals 68 = .ok (.invokevirtual 225, 3) := by decide +kernel
theorem dX10_redeals_71 : decode cX10_redeals 71 = .ok (.istore_n 2, 1) := by decide +kernel
theorem dX10_redeals_72 : decode cX10_redeals 72 = .ok (.aload_n 0, 1) := by decide +kernel
theorem dX10_redeals_73 : decode cX10_redeals 73 = .ok (.iload_n 1, 1) := by decide +kernel
theorem dX10_redeals_74 : decode cX10_redeals 74 = .ok (.invokevirtual 238, 3) := by decide +kernel
theorem dX10_redeals_77 : decode cX10_redeals 77 = .ok (.istore_n 2, 1) := by decide +kernel
theorem dX10_redeals_78 : decode cX10_redeals 78 = .ok (.aload_n 0, 1) := by decide +kernel
theorem dX10_redeals_79 : decode cX10_redeals 79 = .ok (.getfield 69, 3) := by decide +kernel
theorem dX10_redeals_82 : decode cX10_redeals 82 = .ok (.iload_n 1, 1) := by decide +kernel
theorem dX10_redeals_83 : decode cX10_redeals 83 = .ok (.dup2, 1) := by decide +kernel
theorem dX10_redeals_84 : decode cX10_redeals 84 = .ok (.iaload, 1) := by decide +kernel
theorem dX10_redeals_85 : decode cX10_redeals 85 = .ok (.iload_n 2, 1) := by decide +kernel
theorem dX10_redeals_86 : decode cX10_redeals 86 = .ok (.isub, 1) := by decide +kernel
theorem dX10_redeals_87 : decode cX10_redeals 87 = .ok (.iastore, 1) := by decide +kernel
theorem dX10_redeals_88 : decode cX10_redeals 88 = .ok (.aload_n 0, 1) := by decide +kernel
theorem dX10_redeals_89 : decode cX10_redeals 89 = .ok (.dup, 1) := by decide +kernel
theorem dX10_redeals_90 : decode cX10_redeals 90 = .ok (.getfield 206, 3) := by decide +kernel
theorem dX10_redeals_93 : decode cX10_redeals 93 = .ok (.iload_n 2, 1) := by decide +kernel
theorem dX10_redeals_94 : decode cX10_redeals 94 = .ok (.iadd, 1) := by decide +kernel
theorem dX10_redeals_95 : decode cX10_redeals 95 = .ok (.putfield 206, 3) := by decide +kernel
theorem dX10_redeals_98 : decode cX10_redeals 98 = .ok (.aload_n 0, 1) := by decide +kernel
theorem dX10_redeals_99 : decode cX10_redeals 99 = .ok (.iload_n 1, 1) := by decide +kernel
theorem dX10_redeals_100 : decode cX10_redeals 100 = .ok (.iconst 4, 1) := by decide +kernel
theorem dX10_redeals_101 : decode cX10_redeals 101 = .ok (.iload_n 2, 1) := by decide +kernel
theorem dX10_redeals_102 : decode cX10_redeals 102 = .ok (.invokevirtual 215, 3) := by decide +kernel
theorem dX10_redeals_105 : decode cX10_redeals 105 = .ok (.iinc 1 1, 3) := by decide +kernel
theorem dX10_redeals_108 : decode cX10_redeals 108 = .ok (.goto (-106), 3) := by decide +kernel
theorem dX10_redeals_111 : decode cX10_redeals 111 = .ok (.iconst 0, 1) := by decide +kernel
theorem dX10_redeals_112 : decode cX10_redeals 112 = .ok (.istore_n 1, 1) := by decide +kernel
theorem dX10_redeals_113 : decode cX10_redeals 113 = .ok (.iload_n 1, 1) := by decide +kernel
theorem dX10_redeals_114 : decode cX10_redeals 114 = .ok (.aload_n 0, 1) := by decide +kernel
theorem dX10_redeals_115 : decode cX10_redeals 115 = .ok (.getfield 33, 3) := by decide +kernel
theorem dX10_redeals_118 : decode cX10_redeals 118 = .ok (.if_icmp .ge 16, 3) := by decide +kernel
theorem dX10_redeals_121 : decode cX10_redeals 121 = .ok (.aload_n 0, 1) := by decide +kernel
theorem dX10_redeals_122 : decode cX10_redeals 122 = .ok (.invokevirtual 259, 3) := by decide +kernel
theorem dX10_redeals_125 : decode cX10_redeals 125 = .ok (.ifCond .eq 9, 3) := by decide +kernel
theorem dX10_redeals_128 : decode cX10_redeals 128 = .ok (.iinc 1 1, 3) := by decide +kernel
theorem dX10_redeals_131 : decode cX10_redeals 131 = .ok (.goto (-18), 3) := by decide +kernel
theorem dX10_redeals_134 : decode cX10_redeals 134 = .ok (.iconst 0, 1) := by decide +kernel
theorem dX10_redeals_135 : decode cX10_redeals 135 = .ok (.istore_n 2, 1) := by decide +kernel
theorem dX10_redeals_136 : decode cX10_redeals 136 = .ok (.iload_n 2, 1) := by decide +kernel
theorem dX10_redeals_137 : decode cX10_redeals 137 = .ok (.aload_n 0, 1) := by decide +kernel
theorem dX10_redeals_138 : decode cX10_redeals 138 = .ok (.getfield 157, 3) := by decide +kernel
theorem dX10_redeals_141 : decode cX10_redeals 141 = .ok (.if_icmp .ge 16, 3) := by decide +kernel
theorem dX10_redeals_144 : decode cX10_redeals 144 = .ok (.aload_n 0, 1) := by decide +kernel
theorem dX10_redeals_145 : decode cX10_redeals 145 = .ok (.getfield 90, 3) := by decide +kernel
theorem dX10_redeals_148 : decode cX10_redeals 148 = .ok (.iload_n 2, 1) := by decide +kernel
theorem dX10_redeals_149 : decode cX10_redeals 149 = .ok (.iconst 0, 1) := by decide +kernel
theorem dX10_redeals_150 : decode cX10_redeals 150 = .ok (.iastore, 1) := by decide +kernel
theorem dX10_redeals_151 : decode cX10_redeals 151 = .ok (.iinc 2 1, 3) := by decide +kernel
theorem dX10_redeals_154 : decode cX10_redeals 154 = .ok (.goto (-18), 3) := by decide +kernel
theorem dX10_redeals_157 : decode cX10_redeals 157 = .ok (.return_, 1) := by decide +kernel
theorem dX10_s_0 : decode cX10_s 0 = .ok (.aload_n 0, 1) := by decide +kernel
theorem dX10_s_1 : decode cX10_s 1 = .ok (.getfield 42, 3) := by decide +kernel
theorem dX10_s_4 : decode cX10_s 4 = .ok (.iload_n 1, 1) := by decide +kernel
theorem dX10_s_5 : decode cX10_s 5 = .ok (.iaload, 1) := by decide +kernel
theorem dX10_s_6 : decode cX10_s 6 = .ok (.ifCond .ne 16, 3) := by decide +kernel
theorem dX10_s_9 : decode cX10_s 9 = .ok (.iconst 1, 1) := by decide +kernel
theorem dX10_s_10 : decode cX10_s 10 = .ok (.aload_n 0, 1) := by decide +kernel
theorem dX10_s_11 : decode cX10_s 11 = .ok (.getfield 23, 3) := by decide +kernel
theorem dX10_s_14 : decode cX10_s 14 = .ok (.iconst 2, 1) := by decide +kernel
theorem dX10_s_15 : decode cX10_s 15 = .ok (.idiv, 1) := by decide +kernel
theorem dX10_s_16 : decode cX10_s 16 = .ok (.invokestatic 222, 3) := by decide +kernel
theorem dX10_s_19 : decode cX10_s 19 = .ok (.goto 7, 3) := by decide +kernel
theorem dX10_s_22 : decode cX10_s 22 = .ok (.aload_n 0, 1) := by decide +kernel
theorem dX10_s_23 : decode cX10_s 23 = .ok (.getfield 23, 3) := by decide +kernel
theorem dX10_s_26 : decode cX10_s 26 = .ok (.ireturn, 1) := by decide +kernel
theorem dX10_swung_0 : decode cX10_swung 0 = .ok (.iconst (-1), 1) := by decide +kernel
theorem dX10_swung_1 : decode cX10_swung 1 = .ok (.istore_n 1, 1) := by decide +kernel
theorem dX10_swung_2 : decode cX10_swung 2 = .ok (.lconst 0, 1) := by decide +kernel
theorem dX10_swung_3 : decode cX10_swung 3 = .ok (.lstore_n 2, 1) := by decide +kernel
theorem dX10_swung_4 : decode cX10_swung 4 = .ok (.iconst 0, 1) := by decide +kernel
theorem dX10_swung_5 : decode cX10_swung 5 = .ok (.istore 4, 2) := by decide +kernel
theorem dX10_swung_7 : decode cX10_swung 7 = .ok (.iload 4, 2) := by decide +kernel
theorem dX10_swung_9 : decode cX10_swung 9 = .ok (.aload_n 0, 1) := by decide +kernel
theorem dX10_swung_10 : decode cX10_swung 10 = .ok (.getfield 157, 3) := by decide +kernel
theorem dX10_swung_13 : decode cX10_swung 13 = .ok (.if_icmp .ge 99, 3) := by decide +kernel
theorem dX10_swung_16 : decode cX10_swung 16 = .ok (.aload_n 0, 1) := by decide +kernel
theorem dX10_swung_17 : decode cX10_swung 17 = .ok (.iload 4, 2) := by decide +kernel
theorem dX10_swung_19 : decode cX10_swung 19 = .ok (.invokevirtual 244, 3) := by decide +kernel
theorem dX10_swung_22 : decode cX10_swung 22 = .ok (.ifCond .eq 84, 3) := by decide +kernel
theorem dX10_swung_25 : decode cX10_swung 25 = .ok (.aload_n 0, 1) := by decide +kernel
theorem dX10_swung_26 : decode cX10_swung 26 = .ok (.getfield 108, 3) := by decide +kernel
theorem dX10_swung_29 : decode cX10_swung 29 = .ok (.iload 4, 2) := by decide +kernel
theorem dX10_swung_31 : decode cX10_swung 31 = .ok (.baload, 1) := by decide +kernel
theorem dX10_swung_32 : decode cX10_swung 32 = .ok (.ifCond .eq 6, 3) := by decide +kernel
theorem dX10_swung_35 : decode cX10_swung 35 = .ok (.goto 71, 3) := by decide +kernel
theorem dX10_swung_38 : decode cX10_swung 38 = .ok (.aload_n 0, 1) := by decide +kernel
theorem dX10_swung_39 : decode cX10_swung 39 = .ok (.getfield 90, 3) := by decide +kernel
theorem dX10_swung_42 : decode cX10_swung 42 = .ok (.iload 4, 2) := by decide +kernel
theorem dX10_swung_44 : decode cX10_swung 44 = .ok (.iaload, 1) := by decide +kernel
theorem dX10_swung_45 : decode cX10_swung 45 = .ok (.i2l, 1) := by decide +kernel
theorem dX10_swung_46 : decode cX10_swung 46 = .ok (.aload_n 0, 1) := by decide +kernel
theorem dX10_swung_47 : decode cX10_swung 47 = .ok (.iload 4, 2) := by decide +kernel
theorem dX10_swung_49 : decode cX10_swung 49 = .ok (.invokevirtual 262, 3) := by decide +kernel
theorem dX10_swung_52 : decode cX10_swung 52 = .ok (.i2l, 1) := by decide +kernel
theorem dX10_swung_53 : decode cX10_swung 53 = .ok (.lmul, 1) := by decide +kernel
theorem dX10_swung_54 : decode cX10_swung 54 = .ok (.aload_n 0, 1) := by decide +kernel
theorem dX10_swung_55 : decode cX10_swung 55 = .ok (.getfield 42, 3) := by decide +kernel
theorem dX10_swung_58 : decode cX10_swung 58 = .ok (.iload 4, 2) := by decide +kernel
theorem dX10_swung_60 : decode cX10_swung 60 = .ok (.iaload, 1) := by decide +kernel
theorem dX10_swung_61 : decode cX10_swung 61 = .ok (.aload_n 0, 1) := by decide +kernel
theorem dX10_swung_62 : decode cX10_swung 62 = .ok (.getfield 69, 3) := by decide +kernel
theorem dX10_swung_65 : decode cX10_swung 65 = .ok (.iload 4, 2) := by decide +kernel
theorem dX10_swung_67 : decode cX10_swung 67 = .ok (.iaload, 1) := by decide +kernel
theorem dX10_swung_68 : decode cX10_swung 68 = .ok (.invokestatic 160, 3) := by decide +kernel
theorem dX10_swung_71 : decode cX10_swung 71 = .ok (.aload_n 0, 1) := by decide +kernel
theorem dX10_swung_72 : decode cX10_swung 72 = .ok (.getfield 75, 3) := by decide +kernel
theorem dX10_swung_75 : decode cX10_swung 75 = .ok (.iload 4, 2) := by decide +kernel
theorem dX10_swung_77 : decode cX10_swung 77 = .ok (.iaload, 1) := by decide +kernel
theorem dX10_swung_78 : decode cX10_swung 78 = .ok (.isub, 1) := by decide +kernel
theorem dX10_swung_79 : decode cX10_swung 79 = .ok (.aload_n 0, 1) := by decide +kernel
theorem dX10_swung_80 : decode cX10_swung 80 = .ok (.iload 4, 2) := by decide +kernel
theorem dX10_swung_82 : decode cX10_swung 82 = .ok (.invokevirtual 262, 3) := by decide +kernel
theorem dX10_swung_85 : decode cX10_swung 85 = .ok (.iadd, 1) := by decide +kernel
theorem dX10_swung_86 : decode cX10_swung 86 = .ok (.i2l, 1) := by decide +kernel
theorem dX10_swung_87 : decode cX10_swung 87 = .ok (.ldiv, 1) := by decide +kernel
theorem dX10_swung_88 : decode cX10_swung 88 = .ok (.lstore 5, 2) := by decide +kernel
theorem dX10_swung_90 : decode cX10_swung 90 = .ok (.lload 5, 2) := by decide +kernel
theorem dX10_swung_92 : decode cX10_swung 92 = .ok (.lload_n 2, 1) := by decide +kernel
theorem dX10_swung_93 : decode cX10_swung 93 = .ok (.lcmp, 1) := by decide +kernel
theorem dX10_swung_94 : decode cX10_swung 94 = .ok (.ifCond .gt 6, 3) := by decide +kernel
theorem dX10_swung_97 : decode cX10_swung 97 = .ok (.goto 9, 3) := by decide +kernel
theorem dX10_swung_100 : decode cX10_swung 100 = .ok (.lload 5, 2) := by decide +kernel
theorem dX10_swung_102 : decode cX10_swung 102 = .ok (.lstore_n 2, 1) := by decide +kernel
theorem dX10_swung_103 : decode cX10_swung 103 = .ok (.iload 4, 2) := by decide +kernel
theorem dX10_swung_105 : decode cX10_swung 105 = .ok (.istore_n 1, 1) := by decide +kernel
theorem dX10_swung_106 : decode cX10_swung 106 = .ok (.iinc 4 1, 3) := by decide +kernel
theorem dX10_swung_109 : decode cX10_swung 109 = .ok (.goto (-102), 3) := by decide +kernel
theorem dX10_swung_112 : decode cX10_swung 112 = .ok (.iload_n 1, 1) := by decide +kernel
theorem dX10_swung_113 : decode cX10_swung 113 = .ok (.iconst (-1), 1) := by decide +kernel
theorem dX10_swung_114 : decode cX10_swung 114 = .ok (.if_icmp .ne 5, 3) := by decide +kernel
theorem dX10_swung_117 : decode cX10_swung 117 = .ok (.iconst 0, 1) := by decide +kernel
theorem dX10_swung_118 : decode cX10_swung 118 = .ok (.ireturn, 1) := by decide +kernel
theorem dX10_swung_119 : decode cX10_swung 119 = .ok (.aload_n 0, 1) := by decide +kernel
theorem dX10_swung_120 : decode cX10_swung 120 = .ok (.getfield 206, 3) := by decide +kernel
theorem dX10_swung_123 : decode cX10_swung 123 = .ok (.aload_n 0, 1) := by decide +kernel
theorem dX10_swung_124 : decode cX10_swung 124 = .ok (.getfield 140, 3) := by decide +kernel
theorem dX10_swung_127 : decode cX10_swung 127 = .ok (.aload_n 0, 1) := by decide +kernel
theorem dX10_swung_128 : decode cX10_swung 128 = .ok (.getfield 23, 3) := by decide +kernel
theorem dX10_swung_131 : decode cX10_swung 131 = .ok (.iadd, 1) := by decide +kernel
theorem dX10_swung_132 : decode cX10_swung 132 = .ok (.if_icmp .lt 19, 3) := by decide +kernel
theorem dX10_swung_135 : decode cX10_swung 135 = .ok (.aload_n 0, 1) := by decide +kernel
theorem dX10_swung_136 : decode cX10_swung 136 = .ok (.dup, 1) := by decide +kernel
theorem dX10_swung_137 : decode cX10_swung 137 = .ok (.getfield 206, 3) := by decide +kernel
theorem dX10_swung_140 : decode cX10_swung 140 = .ok (.aload_n 0, 1) := by decide +kernel
theorem dX10_swung_141 : decode cX10_swung 141 = .ok (.getfield 23, 3) := by decide +kernel
theorem dX10_swung_144 : decode cX10_swung 144 = .ok (.isub, 1) := by decide +kernel
theorem dX10_swung_145 : decode cX10_swung 145 = .ok (.putfield 206, 3) := by decide +kernel
theorem dX10_swung_148 : decode cX10_swung 148 = .ok (.goto 162, 3) := by decide +kernel
theorem dX10_swung_151 : decode cX10_swung 151 = .ok (.iconst (-1), 1) := by decide +kernel
theorem dX10_swung_152 : decode cX10_swung 152 = .ok (.istore 4, 2) := by decide +kernel
theorem dX10_swung_154 : decode cX10_swung 154 = .ok (.lload_n 2, 1) := by decide +kernel
theorem dX10_swung_155 : decode cX10_swung 155 = .ok (.lstore 5, 2) := by decide +kernel
theorem dX10_swung_157 : decode cX10_swung 157 = .ok (.iconst 0, 1) := by decide +kernel
theorem dX10_swung_158 : decode cX10_swung 158 = .ok (.istore 7, 2) := by decide +kernel
theorem dX10_swung_160 : decode cX10_swung 160 = .ok (.iload 7, 2) := by decide +kernel
theorem dX10_swung_162 : decode cX10_swung 162 = .ok (.aload_n 0, 1) := by decide +kernel
theorem dX10_swung_163 : decode cX10_swung 163 = .ok (.getfield 157, 3) := by decide +kernel
theorem dX10_swung_166 : decode cX10_swung 166 = .ok (.if_icmp .ge 126, 3) := by decide +kernel
theorem dX10_swung_169 : decode cX10_swung 169 = .ok (.aload_n 0, 1) := by decide +kernel
theorem dX10_swung_170 : decode cX10_swung 170 = .ok (.getfield 42, 3) := by decide +kernel
theorem dX10_swung_173 : decode cX10_swung 173 = .ok (.iload 7, 2) := by decide +kernel
theorem dX10_swung_175 : decode cX10_swung 175 = .ok (.iaload, 1) := by decide +kernel
theorem dX10_swung_176 : decode cX10_swung 176 = .ok (.aload_n 0, 1) := by decide +kernel
theorem dX10_swung_177 : decode cX10_swung 177 = .ok (.getfield 69, 3) := by decide +kernel
theorem dX10_swung_180 : decode cX10_swung 180 = .ok (.iload 7, 2) := by decide +kernel
theorem dX10_swung_182 : decode cX10_swung 182 = .ok (.iaload, 1) := by decide +kernel
theorem dX10_swung_183 : decode cX10_swung 183 = .ok (.invokestatic 160, 3) := by decide +kernel
theorem dX10_swung_186 : decode cX10_swung 186 = .ok (.aload_n 0, 1) := by decide +kernel
theorem dX10_swung_187 : decode cX10_swung 187 = .ok (.getfield 75, 3) := by decide +kernel
theorem dX10_swung_190 : decode cX10_swung 190 = .ok (.iload 7, 2) := by decide +kernel
theorem dX10_swung_192 : decode cX10_swung 192 = .ok (.iaload, 1) := by decide +kernel
theorem dX10_swung_193 : decode cX10_swung 193 = .ok (.isub, 1) := by decide +kernel
theorem dX10_swung_194 : decode cX10_swung 194 = .ok (.istore 8, 2) := by decide +kernel
theorem dX10_swung_196 : decode cX10_swung 196 = .ok (.iload 7, 2) := by decide +kernel
theorem dX10_swung_198 : decode cX10_swung 198 = .ok (.iload_n 1, 1) := by decide +kernel
theorem dX10_swung_199 : decode cX10_swung 199 = .ok (.if_icmp .eq 87, 3) := by decide +kernel
theorem dX10_swung_202 : decode cX10_swung 202 = .ok (.aload_n 0, 1) := by decide +kernel
theorem dX10_swung_203 : decode cX10_swung 203 = .ok (.iload 7, 2) := by decide +kernel
theorem dX10_swung_205 : decode cX10_swung 205 = .ok (.invokevirtual 244, 3) := by decide +kernel
theorem dX10_swung_208 : decode cX10_swung 208 = .ok (.ifCond .eq 78, 3) := by decide +kernel
theorem dX10_swung_211 : decode cX10_swung 211 = .ok (.aload_n 0, 1) := by decide +kernel
theorem dX10_swung_212 : decode cX10_swung 212 = .ok (.iload 7, 2) := by decide +kernel
theorem dX10_swung_214 : decode cX10_swung 214 = .ok (.invokevirtual 238, 3) := by decide +kernel
theorem dX10_swung_217 : decode cX10_swung 217 = .ok (.aload_n 0, 1) := by decide +kernel
theorem dX10_swung_218 : decode cX10_swung 218 = .ok (.getfield 23, 3) := by decide +kernel
theorem dX10_swung_221 : decode cX10_swung 221 = .ok (.if_icmp .lt 65, 3) := by decide +kernel
theorem dX10_swung_224 : decode cX10_swung 224 = .ok (.iload 8, 2) := by decide +kernel
theorem dX10_swung_226 : decode cX10_swung 226 = .ok (.aload_n 0, 1) := by decide +kernel
theorem dX10_swung_227 : decode cX10_swung 227 = .ok (.iload 7, 2) := by decide +kernel
theorem dX10_swung_229 : decode cX10_swung 229 = .ok (.invokevirtual 262, 3) := by decide +kernel
theorem dX10_swung_232 : decode cX10_swung 232 = .ok (.if_icmp .gt 6, 3) := by decide +kernel
theorem dX10_swung_235 : decode cX10_swung 235 = .ok (.goto 51, 3) := by decide +kernel
theorem dX10_swung_238 : decode cX10_swung 238 = .ok (.aload_n 0, 1) := by decide +kernel
theorem dX10_swung_239 : decode cX10_swung 239 = .ok (.getfield 90, 3) := by decide +kernel
theorem dX10_swung_242 : decode cX10_swung 242 = .ok (.iload 7, 2) := by decide +kernel
theorem dX10_swung_244 : decode cX10_swung 244 = .ok (.iaload, 1) := by decide +kernel
theorem dX10_swung_245 : decode cX10_swung 245 = .ok (.i2l, 1) := by decide +kernel
theorem dX10_swung_246 : decode cX10_swung 246 = .ok (.aload_n 0, 1) := by decide +kernel
theorem dX10_swung_247 : decode cX10_swung 247 = .ok (.iload 7, 2) := by decide +kernel
theorem dX10_swung_249 : decode cX10_swung 249 = .ok (.invokevirtual 262, 3) := by decide +kernel
theorem dX10_swung_252 : decode cX10_swung 252 = .ok (.i2l, 1) := by decide +kernel
theorem dX10_swung_253 : decode cX10_swung 253 = .ok (.lmul, 1) := by decide +kernel
theorem dX10_swung_254 : decode cX10_swung 254 = .ok (.iload 8, 2) := by decide +kernel
theorem dX10_swung_256 : decode cX10_swung 256 = .ok (.aload_n 0, 1) := by decide +kernel
theorem dX10_swung_257 : decode cX10_swung 257 = .ok (.iload 7, 2) := by decide +kernel
theorem dX10_swung_259 : decode cX10_swung 259 = .ok (.invokevirtual 262, 3) := by decide +kernel
theorem dX10_swung_262 : decode cX10_swung 262 = .ok (.isub, 1) := by decide +kernel
theorem dX10_swung_263 : decode cX10_swung 263 = .ok (.i2l, 1) := by decide +kernel
theorem dX10_swung_264 : decode cX10_swung 264 = .ok (.ldiv, 1) := by decide +kernel
theorem dX10_swung_265 : decode cX10_swung 265 = .ok (.lstore 9, 2) := by decide +kernel
theorem dX10_swung_267 : decode cX10_swung 267 = .ok (.lload 9, 2) := by decide +kernel
theorem dX10_swung_269 : decode cX10_swung 269 = .ok (.lload 5, 2) := by decide +kernel
theorem dX10_swung_271 : decode cX10_swung 271 = .ok (.lcmp, 1) := by decide +kernel
theorem dX10_swung_272 : decode cX10_swung 272 = .ok (.ifCond .lt 6, 3) := by decide +kernel
theorem dX10_swung_275 : decode cX10_swung 275 = .ok (.goto 11, 3) := by decide +kernel
theorem dX10_swung_278 : decode cX10_swung 278 = .ok (.lload 9, 2) := by decide +kernel
theorem dX10_swung_280 : decode cX10_swung 280 = .ok (.lstore 5, 2) := by decide +kernel
theorem dX10_swung_282 : decode cX10_swung 282 = .ok (.iload 7, 2) := by decide +kernel
theorem dX10_swung_284 : decode cX10_swung 284 = .ok (.istore 4, 2) := by decide +kernel
theorem dX10_swung_286 : decode cX10_swung 286 = .ok (.iinc 7 1, 3) := by decide +kernel
theorem dX10_swung_289 : decode cX10_swung 289 = .ok (.goto (-129), 3) := by decide +kernel
theorem dX10_swung_292 : decode cX10_swung 292 = .ok (.iload 4, 2) := by decide +kernel
theorem dX10_swung_294 : decode cX10_swung 294 = .ok (.iconst (-1), 1) := by decide +kernel
theorem dX10_swung_295 : decode cX10_swung 295 = .ok (.if_icmp .ne 5, 3) := by decide +kernel
theorem dX10_swung_298 : decode cX10_swung 298 = .ok (.iconst 0, 1) := by decide +kernel
theorem dX10_swung_299 : decode cX10_swung 299 = .ok (.ireturn, 1) := by decide +kernel
theorem dX10_swung_300 : decode cX10_swung 300 = .ok (.aload_n 0, 1) := by decide +kernel
theorem dX10_swung_301 : decode cX10_swung 301 = .ok (.iload 4, 2) := by decide +kernel
theorem dX10_swung_303 : decode cX10_swung 303 = .ok (.aload_n 0, 1) := by decide +kernel
theorem dX10_swung_304 : decode cX10_swung 304 = .ok (.getfield 23, 3) := by decide +kernel
theorem dX10_swung_307 : decode cX10_swung 307 = .ok (.invokevirtual 241, 3) := by decide +kernel
theorem dX10_swung_310 : decode cX10_swung 310 = .ok (.aload_n 0, 1) := by decide +kernel
theorem dX10_swung_311 : decode cX10_swung 311 = .ok (.getfield 69, 3) := by decide +kernel
theorem dX10_swung_314 : decode cX10_swung 314 = .ok (.iload_n 1, 1) := by decide +kernel
theorem dX10_swung_315 : decode cX10_swung 315 = .ok (.dup2, 1) := by decide +kernel
theorem dX10_swung_316 : decode cX10_swung 316 = .ok (.iaload, 1) := by decide +kernel
theorem dX10_swung_317 : decode cX10_swung 317 = .ok (.aload_n 0, 1) := by decide +kernel
theorem dX10_swung_318 : decode cX10_swung 318 = .ok (.getfield 23, 3) := by decide +kernel
theorem dX10_swung_321 : decode cX10_swung 321 = .ok (.iadd, 1) := by decide +kernel
theorem dX10_swung_322 : decode cX10_swung 322 = .ok (.iastore, 1) := by decide +kernel
theorem dX10_swung_323 : decode cX10_swung 323 = .ok (.aload_n 0, 1) := by decide +kernel
theorem dX10_swung_324 : decode cX10_swung 324 = .ok (.iload_n 1, 1) := by decide +kernel
theorem dX10_swung_325 : decode cX10_swung 325 = .ok (.bipush 8, 2) := by decide +kernel
theorem dX10_swung_327 : decode cX10_swung 327 = .ok (.aload_n 0, 1) := by decide +kernel
theorem dX10_swung_328 : decode cX10_swung 328 = .ok (.getfield 23, 3) := by decide +kernel
theorem dX10_swung_331 : decode cX10_swung 331 = .ok (.invokevirtual 215, 3) := by decide +kernel
theorem dX10_swung_334 : decode cX10_swung 334 = .ok (.iconst 1, 1) := by decide +kernel
theorem dX10_swung_335 : decode cX10_swung 335 = .ok (.ireturn, 1) := by decide +kernel
theorem dX10_run_0 : decode cX10_run 0 = .ok (.aload_n 0, 1) := by decide +kernel
theorem dX10_run_1 : decode cX10_run 1 = .ok (.iconst 0, 1) := by decide +kernel
theorem dX10_run_2 : decode cX10_run 2 = .ok (.putfield 121, 3) := by decide +kernel
theorem dX10_run_5 : decode cX10_run 5 = .ok (.iload_n 1, 1) := by decide +kernel
theorem dX10_run_6 : decode cX10_run 6 = .ok (.iconst 1, 1) := by decide +kernel
theorem dX10_run_7 : decode cX10_run 7 = .ok (.sipush 2000, 3) := by decide +kernel
theorem dX10_run_10 : decode cX10_run 10 = .ok (.invokestatic 124, 3) := by decide +kernel
theorem dX10_run_13 : decode cX10_run 13 = .ok (.ifCond .ne 6, 3) := by decide +kernel
theorem dX10_run_16 : decode cX10_run 16 = .ok (.bipush (-2), 2) := by decide +kernel
theorem dX10_run_18 : decode cX10_run 18 = .ok (.ireturn, 1) := by decide +kernel
theorem dX10_run_19 : decode cX10_run 19 = .ok (.aload_n 0, 1) := by decide +kernel
theorem dX10_run_20 : decode cX10_run 20 = .ok (.getfield 136, 3) := by decide +kernel
theorem dX10_run_23 : decode cX10_run 23 = .ok (.ifCond .ne 6, 3) := by decide +kernel
theorem dX10_run_26 : decode cX10_run 26 = .ok (.bipush (-9), 2) := by decide +kernel
theorem dX10_run_28 : decode cX10_run 28 = .ok (.ireturn, 1) := by decide +kernel
theorem dX10_run_29 : decode cX10_run 29 = .ok (.iconst 0, 1) := by decide +kernel
theorem dX10_run_30 : decode cX10_run 30 = .ok (.istore_n 2, 1) := by decide +kernel
theorem dX10_run_31 : decode cX10_run 31 = .ok (.iload_n 2, 1) := by decide +kernel
theorem dX10_run_32 : decode cX10_run 32 = .ok (.iload_n 1, 1) := by decide +kernel
theorem dX10_run_33 : decode cX10_run 33 = .ok (.if_icmp .ge 20, 3) := by decide +kernel
theorem dX10_run_36 : decode cX10_run 36 = .ok (.aload_n 0, 1) := by decide +kernel
theorem dX10_run_37 : decode cX10_run 37 = .ok (.invokevirtual 265, 3) := by decide +kernel
theorem dX10_run_40 : decode cX10_run 40 = .ok (.ifCond .eq 13, 3) := by decide +kernel
theorem dX10_run_43 : decode cX10_run 43 = .ok (.aload_n 0, 1) := by decide +kernel
theorem dX10_run_44 : decode cX10_run 44 = .ok (.invokevirtual 268, 3) := by decide +kernel
theorem dX10_run_47 : decode cX10_run 47 = .ok (.iinc 2 1, 3) := by decide +kernel
theorem dX10_run_50 : decode cX10_run 50 = .ok (.goto (-19), 3) := by decide +kernel
theorem dX10_run_53 : decode cX10_run 53 = .ok (.aload_n 0, 1) := by decide +kernel
theorem dX10_run_54 : decode cX10_run 54 = .ok (.getfield 203, 3) := by decide +kernel
theorem dX10_run_57 : decode cX10_run 57 = .ok (.ireturn, 1) := by decide +kernel
theorem dX10_isAny_0 : decode cX10_isAny 0 = .ok (.iconst 0, 1) := by decide +kernel
theorem dX10_isAny_1 : decode cX10_isAny 1 = .ok (.istore_n 1, 1) := by decide +kernel
theorem dX10_isAny_2 : decode cX10_isAny 2 = .ok (.iload_n 1, 1) := by decide +kernel
theorem dX10_isAny_3 : decode cX10_isAny 3 = .ok (.aload_n 0, 1) := by decide +kernel
theorem dX10_isAny_4 : decode cX10_isAny 4 = .ok (.getfield 157, 3) := by decide +kernel
theorem dX10_isAny_7 : decode cX10_isAny 7 = .ok (.if_icmp .ge 19, 3) := by decide +kernel
theorem dX10_isAny_10 : decode cX10_isAny 10 = .ok (.aload_n 0, 1) := by decide +kernel
theorem dX10_isAny_11 : decode cX10_isAny 11 = .ok (.iload_n 1, 1) := by decide +kernel
theorem dX10_isAny_12 : decode cX10_isAny 12 = .ok (.invokevirtual 219, 3) := by decide +kernel
theorem dX10_isAny_15 : decode cX10_isAny 15 = .ok (.ifCond .eq 5, 3) := by decide +kernel
theorem dX10_isAny_18 : decode cX10_isAny 18 = .ok (.iconst 1, 1) := by decide +kernel
theorem dX10_isAny_19 : decode cX10_isAny 19 = .ok (.ireturn, 1) := by decide +kernel
theorem dX10_isAny_20 : decode cX10_isAny 20 = .ok (.iinc 1 1, 3) := by decide +kernel
theorem dX10_isAny_23 : decode cX10_isAny 23 = .ok (.goto (-21), 3) := by decide +kernel
theorem dX10_isAny_26 : decode cX10_isAny 26 = .ok (.iconst 0, 1) := by decide +kernel
theorem dX10_isAny_27 : decode cX10_isAny 27 = .ok (.ireturn, 1) := by decide +kernel
theorem dX10_of_0 : decode cX10_of 0 = .ok (.aload_n 0, 1) := by decide +kernel
theorem dX10_of_1 : decode cX10_of 1 = .ok (.iconst 0, 1) := by decide +kernel
theorem dX10_of_2 : decode cX10_of 2 = .ok (.putfield 121, 3) := by decide +kernel
theorem dX10_of_5 : decode cX10_of 5 = .ok (.iload_n 1, 1) := by decide +kernel
theorem dX10_of_6 : decode cX10_of 6 = .ok (.iconst 0, 1) := by decide +kernel
theorem dX10_of_7 : decode cX10_of 7 = .ok (.aload_n 0, 1) := by decide +kernel
theorem dX10_of_8 : decode cX10_of 8 = .ok (.getfield 157, 3) := by decide +kernel
theorem dX10_of_11 : decode cX10_of 11 = .ok (.iconst 1, 1) := by decide +kernel
theorem dX10_of_12 : decode cX10_of 12 = .ok (.isub, 1) := by decide +kernel
theorem dX10_of_13 : decode cX10_of 13 = .ok (.invokestatic 124, 3) := by decide +kernel
theorem dX10_of_16 : decode cX10_of 16 = .ok (.ifCond .ne 6, 3) := by decide +kernel
theorem dX10_of_19 : decode cX10_of 19 = .ok (.bipush (-2), 2) := by decide +kernel
theorem dX10_of_21 : decode cX10_of 21 = .ok (.ireturn, 1) := by decide +kernel
theorem dX10_of_22 : decode cX10_of 22 = .ok (.iload_n 2, 1) := by decide +kernel
theorem dX10_of_23 : decode cX10_of 23 = .ok (.tableswitch 187 0 12 #[65, 72, 79, 86, 93, 100, 122, 129, 136, 143, 150, 165, 180], 65) := by decide +kernel
theorem dX10_of_88 : decode cX10_of 88 = .ok (.aload_n 0, 1) := by decide +kernel
theorem dX10_of_89 : decode cX10_of 89 = .ok (.getfield 66, 3) := by decide +kernel
theorem dX10_of_92 : decode cX10_of 92 = .ok (.iload_n 1, 1) := by decide +kernel
theorem dX10_of_93 : decode cX10_of 93 = .ok (.iaload, 1) := by decide +kernel
theorem dX10_of_94 : decode cX10_of 94 = .ok (.ireturn, 1) := by decide +kernel
theorem dX10_of_95 : decode cX10_of 95 = .ok (.aload_n 0, 1) := by decide +kernel
theorem dX10_of_96 : decode cX10_of 96 = .ok (.getfield 69, 3) := by decide +kernel
theorem dX10_of_99 : decode cX10_of 99 = .ok (.iload_n 1, 1) := by decide +kernel
theorem dX10_of_100 : decode cX10_of 100 = .ok (.iaload, 1) := by decide +kernel
theorem dX10_of_101 : decode cX10_of 101 = .ok (.ireturn, 1) := by decide +kernel
theorem dX10_of_102 : decode cX10_of 102 = .ok (.aload_n 0, 1) := by decide +kernel
theorem dX10_of_103 : decode cX10_of 103 = .ok (.getfield 72, 3) := by decide +kernel
theorem dX10_of_106 : decode cX10_of 106 = .ok (.iload_n 1, 1) := by decide +kernel
theorem dX10_of_107 : decode cX10_of 107 = .ok (.iaload, 1) := by decide +kernel
theorem dX10_of_108 : decode cX10_of 108 = .ok (.ireturn, 1) := by decide +kernel
theorem dX10_of_109 : decode cX10_of 109 = .ok (.aload_n 0, 1) := by decide +kernel
theorem dX10_of_110 : decode cX10_of 110 = .ok (.getfield 75, 3) := by decide +kernel
theorem dX10_of_113 : decode cX10_of 113 = .ok (.iload_n 1, 1) := by decide +kernel
theorem dX10_of_114 : decode cX10_of 114 = .ok (.iaload, 1) := by decide +kernel
theorem dX10_of_115 : decode cX10_of 115 = .ok (.ireturn, 1) := by decide +kernel
theorem dX10_of_116 : decode cX10_of 116 = .ok (.aload_n 0, 1) := by decide +kernel
theorem dX10_of_117 : decode cX10_of 117 = .ok (.getfield 78, 3) := by decide +kernel
theorem dX10_of_120 : decode cX10_of 120 = .ok (.iload_n 1, 1) := by decide +kernel
theorem dX10_of_121 : decode cX10_of 121 = .ok (.iaload, 1) := by decide +kernel
theorem dX10_of_122 : decode cX10_of 122 = .ok (.ireturn, 1) := by decide +kernel
theorem dX10_of_123 : decode cX10_of 123 = .ok (.aload_n 0, 1) := by decide +kernel
theorem dX10_of_124 : decode cX10_of 124 = .ok (.getfield 66, 3) := by decide +kernel
theorem dX10_of_127 : decode cX10_of 127 = .ok (.iload_n 1, 1) := by decide +kernel
theorem dX10_of_128 : decode cX10_of 128 = .ok (.iaload, 1) := by decide +kernel
theorem dX10_of_129 : decode cX10_of 129 = .ok (.iconst 3, 1) := by decide +kernel
theorem dX10_of_130 : decode cX10_of 130 = .ok (.if_icmp .ne 8, 3) := by decide +kernel
theorem dX10_of_133 : decode cX10_of 133 = .ok (.bipush (-2), 2) := by decide +kernel
theorem dX10_of_135 : decode cX10_of 135 = .ok (.goto 9, 3) := by decide +kernel
theorem dX10_of_138 : decode cX10_of 138 = .ok (.aload_n 0, 1) := by decide +kernel
theorem dX10_of_139 : decode cX10_of 139 = .ok (.getfield 81, 3) := by decide +kernel
theorem dX10_of_142 : decode cX10_of 142 = .ok (.iload_n 1, 1) := by decide +kernel
theorem dX10_of_143 : decode cX10_of 143 = .ok (.iaload, 1) := by decide +kernel
theorem dX10_of_144 : decode cX10_of 144 = .ok (.ireturn, 1) := by decide +kernel
theorem dX10_of_145 : decode cX10_of 145 = .ok (.aload_n 0, 1) := by decide +kernel
theorem dX10_of_146 : decode cX10_of 146 = .ok (.getfield 84, 3) := by decide +kernel
theorem dX10_of_149 : decode cX10_of 149 = .ok (.iload_n 1, 1) := by decide +kernel
theorem dX10_of_150 : decode cX10_of 150 = .ok (.iaload, 1) := by decide +kernel
theorem dX10_of_151 : decode cX10_of 151 = .ok (.ireturn, 1) := by decide +kernel
theorem dX10_of_152 : decode cX10_of 152 = .ok (.aload_n 0, 1) := by decide +kernel
theorem dX10_of_153 : decode cX10_of 153 = .ok (.getfield 87, 3) := by decide +kernel
theorem dX10_of_156 : decode cX10_of 156 = .ok (.iload_n 1, 1) := by decide +kernel
theorem dX10_of_157 : decode cX10_of 157 = .ok (.iaload, 1) := by decide +kernel
theorem dX10_of_158 : decode cX10_of 158 = .ok (.ireturn, 1) := by decide +kernel
theorem dX10_of_159 : decode cX10_of 159 = .ok (.aload_n 0, 1) := by decide +kernel
theorem dX10_of_160 : decode cX10_of 160 = .ok (.getfield 90, 3) := by decide +kernel
theorem dX10_of_163 : decode cX10_of 163 = .ok (.iload_n 1, 1) := by decide +kernel
theorem dX10_of_164 : decode cX10_of 164 = .ok (.iaload, 1) := by decide +kernel
theorem dX10_of_165 : decode cX10_of 165 = .ok (.ireturn, 1) := by decide +kernel
theorem dX10_of_166 : decode cX10_of 166 = .ok (.aload_n 0, 1) := by decide +kernel
theorem dX10_of_167 : decode cX10_of 167 = .ok (.getfield 96, 3) := by decide +kernel
theorem dX10_of_170 : decode cX10_of 170 = .ok (.iload_n 1, 1) := by decide +kernel
theorem dX10_of_171 : decode cX10_of 171 = .ok (.iaload, 1) := by decide +kernel
theorem dX10_of_172 : decode cX10_of 172 = .ok (.ireturn, 1) := by decide +kernel
theorem dX10_of_173 : decode cX10_of 173 = .ok (.aload_n 0, 1) := by decide +kernel
theorem dX10_of_174 : decode cX10_of 174 = .ok (.getfield 108, 3) := by decide +kernel
theorem dX10_of_177 : decode cX10_of 177 = .ok (.iload_n 1, 1) := by decide +kernel
theorem dX10_of_178 : decode cX10_of 178 = .ok (.baload, 1) := by decide +kernel
theorem dX10_of_179 : decode cX10_of 179 = .ok (.ifCond .eq 7, 3) := by decide +kernel
theorem dX10_of_182 : decode cX10_of 182 = .ok (.iconst 1, 1) := by decide +kernel
theorem dX10_of_183 : decode cX10_of 183 = .ok (.goto 4, 3) := by decide +kernel
theorem dX10_of_186 : decode cX10_of 186 = .ok (.iconst 0, 1) := by decide +kernel
theorem dX10_of_187 : decode cX10_of 187 = .ok (.ireturn, 1) := by decide +kernel
theorem dX10_of_188 : decode cX10_of 188 = .ok (.aload_n 0, 1) := by decide +kernel
theorem dX10_of_189 : decode cX10_of 189 = .ok (.getfield 112, 3) := by decide +kernel
theorem dX10_of_192 : decode cX10_of 192 = .ok (.iload_n 1, 1) := by decide +kernel
theorem dX10_of_193 : decode cX10_of 193 = .ok (.baload, 1) := by decide +kernel
theorem dX10_of_194 : decode cX10_of 194 = .ok (.ifCond .eq 7, 3) := by decide +kernel
theorem dX10_of_197 : decode cX10_of 197 = .ok (.iconst 1, 1) := by decide +kernel
theorem dX10_of_198 : decode cX10_of 198 = .ok (.goto 4, 3) := by decide +kernel
theorem dX10_of_201 : decode cX10_of 201 = .ok (.iconst 0, 1) := by decide +kernel
theorem dX10_of_202 : decode cX10_of 202 = .ok (.ireturn, 1) := by decide +kernel
theorem dX10_of_203 : decode cX10_of 203 = .ok (.aload_n 0, 1) := by decide +kernel
theorem dX10_of_204 : decode cX10_of 204 = .ok (.getfield 93, 3) := by decide +kernel
theorem dX10_of_207 : decode cX10_of 207 = .ok (.iload_n 1, 1) := by decide +kernel
theorem dX10_of_208 : decode cX10_of 208 = .ok (.iaload, 1) := by decide +kernel
theorem dX10_of_209 : decode cX10_of 209 = .ok (.ireturn, 1) := by decide +kernel
theorem dX10_of_210 : decode cX10_of 210 = .ok (.bipush (-2), 2) := by decide +kernel
theorem dX10_of_212 : decode cX10_of 212 = .ok (.ireturn, 1) := by decide +kernel
theorem dX10_count_0 : decode cX10_count 0 = .ok (.aload_n 0, 1) := by decide +kernel
theorem dX10_count_1 : decode cX10_count 1 = .ok (.iconst 0, 1) := by decide +kernel
theorem dX10_count_2 : decode cX10_count 2 = .ok (.putfield 121, 3) := by decide +kernel
theorem dX10_count_5 : decode cX10_count 5 = .ok (.iload_n 1, 1) := by decide +kernel
theorem dX10_count_6 : decode cX10_count 6 = .ok (.tableswitch 159 0 11 #[62, 67, 72, 77, 82, 87, 92, 105, 110, 115, 120, 125], 62) := by decide +kernel
theorem dX10_count_68 : decode cX10_count 68 = .ok (.aload_n 0, 1) := by decide +kernel
theorem dX10_count_69 : decode cX10_count 69 = .ok (.getfield 146, 3) := by decide +kernel
theorem dX10_count_72 : decode cX10_count 72 = .ok (.ireturn, 1) := by decide +kernel
theorem dX10_count_73 : decode cX10_count 73 = .ok (.aload_n 0, 1) := by decide +kernel
theorem dX10_count_74 : decode cX10_count 74 = .ok (.getfield 23, 3) := by decide +kernel
theorem dX10_count_77 : decode cX10_count 77 = .ok (.ireturn, 1) := by decide +kernel
theorem dX10_count_78 : decode cX10_count 78 = .ok (.aload_n 0, 1) := by decide +kernel
theorem dX10_count_79 : decode cX10_count 79 = .ok (.getfield 27, 3) := by decide +kernel
theorem dX10_count_82 : decode cX10_count 82 = .ok (.ireturn, 1) := by decide +kernel
theorem dX10_count_83 : decode cX10_count 83 = .ok (.aload_n 0, 1) := by decide +kernel
theorem dX10_count_84 : decode cX10_count 84 = .ok (.getfield 140, 3) := by decide +kernel
theorem dX10_count_87 : decode cX10_count 87 = .ok (.ireturn, 1) := by decide +kernel
theorem dX10_count_88 : decode cX10_count 88 = .ok (.aload_n 0, 1) := by decide +kernel
theorem dX10_count_89 : decode cX10_count 89 = .ok (.getfield 30, 3) := by decide +kernel
theorem dX10_count_92 : decode cX10_count 92 = .ok (.ireturn, 1) := by decide +kernel
theorem dX10_count_93 : decode cX10_count 93 = .ok (.aload_n 0, 1) := by decide +kernel
theorem dX10_count_94 : decode cX10_count 94 = .ok (.getfield 33, 3) := by decide +kernel
theorem dX10_count_97 : decode cX10_count 97 = .ok (.ireturn, 1) := by decide +kernel
theorem dX10_count_98 : decode cX10_count 98 = .ok (.aload_n 0, 1) := by decide +kernel
theorem dX10_count_99 : decode cX10_count 99 = .ok (.getfield 136, 3) := by decide +kernel
theorem dX10_count_102 : decode cX10_count 102 = .ok (.ifCond .eq 7, 3) := by decide +kernel
theorem dX10_count_105 : decode cX10_count 105 = .ok (.iconst 1, 1) := by decide +kernel
theorem dX10_count_106 : decode cX10_count 106 = .ok (.goto 4, 3) := by decide +kernel
theorem dX10_count_109 : decode cX10_count 109 = .ok (.iconst 0, 1) := by decide +kernel
theorem dX10_count_110 : decode cX10_count 110 = .ok (.ireturn, 1) := by decide +kernel
theorem dX10_count_111 : decode cX10_count 111 = .ok (.aload_n 0, 1) := by decide +kernel
theorem dX10_count_112 : decode cX10_count 112 = .ok (.getfield 203, 3) := by decide +kernel
theorem dX10_count_115 : decode cX10_count 115 = .ok (.ireturn, 1) := by decide +kernel
theorem dX10_count_116 : decode cX10_count 116 = .ok (.aload_n 0, 1) := by decide +kernel
theorem dX10_count_117 : decode cX10_count 117 = .ok (.getfield 206, 3) := by decide +kernel
theorem dX10_count_120 : decode cX10_count 120 = .ok (.ireturn, 1) := by decide +kernel
theorem dX10_count_121 : decode cX10_count 121 = .ok (.aload_n 0, 1) := by decide +kernel
theorem dX10_count_122 : decode cX10_count 122 = .ok (.getfield 209, 3) := by decide +kernel
theorem dX10_count_125 : decode cX10_count 125 = .ok (.ireturn, 1) := by decide +kernel
theorem dX10_count_126 : decode cX10_count 126 = .ok (.aload_n 0, 1) := by decide +kernel
theorem dX10_count_127 : decode cX10_count 127 = .ok (.getfield 212, 3) := by decide +kernel
theorem dX10_count_130 : decode cX10_count 130 = .ok (.ireturn, 1) := by decide +kernel
theorem dX10_count_131 : decode cX10_count 131 = .ok (.iconst 0, 1) := by decide +kernel
theorem dX10_count_132 : decode cX10_count 132 = .ok (.istore_n 2, 1) := by decide +kernel
theorem dX10_count_133 : decode cX10_count 133 = .ok (.iconst 0, 1) := by decide +kernel
theorem dX10_count_134 : decode cX10_count 134 = .ok (.istore_n 3, 1) := by decide +kernel
theorem dX10_count_135 : decode cX10_count 135 = .ok (.iload_n 3, 1) := by decide +kernel
theorem dX10_count_136 : decode cX10_count 136 = .ok (.iconst 4, 1) := by decide +kernel
theorem dX10_count_137 : decode cX10_count 137 = .ok (.if_icmp .ge 26, 3) := by decide +kernel
theorem dX10_count_140 : decode cX10_count 140 = .ok (.iload_n 2, 1) := by decide +kernel
theorem dX10_count_141 : decode cX10_count 141 = .ok (.aload_n 0, 1) := by decide +kernel
theorem dX10_count_142 : decode cX10_count 142 = .ok (.getfield 9, 3) := by decide +kernel
theorem dX10_count_145 : decode cX10_count 145 = .ok (.iload_n 3, 1) := by decide +kernel
theorem dX10_count_146 : decode cX10_count 146 = .ok (.iaload, 1) := by decide +kernel
theorem dX10_count_147 : decode cX10_count 147 = .ok (.ifCond .lt 7, 3) := by decide +kernel
theorem dX10_count_150 : decode cX10_count 150 = .ok (.iconst 1, 1) := by decide +kernel
theorem dX10_count_151 : decode cX10_count 151 = .ok (.goto 4, 3) := by decide +kernel
theorem dX10_count_154 : decode cX10_count 154 = .ok (.iconst 0, 1) := by decide +kernel
theorem dX10_count_155 : decode cX10_count 155 = .ok (.iadd, 1) := by decide +kernel
theorem dX10_count_156 : decode cX10_count 156 = .ok (.istore_n 2, 1) := by decide +kernel
theorem dX10_count_157 : decode cX10_count 157 = .ok (.iinc 3 1, 3) := by decide +kernel
theorem dX10_count_160 : decode cX10_count 160 = .ok (.goto (-25), 3) := by decide +kernel
theorem dX10_count_163 : decode cX10_count 163 = .ok (.iload_n 2, 1) := by decide +kernel
theorem dX10_count_164 : decode cX10_count 164 = .ok (.ireturn, 1) := by decide +kernel
theorem dX10_count_165 : decode cX10_count 165 = .ok (.iconst (-1), 1) := by decide +kernel
theorem dX10_count_166 : decode cX10_count 166 = .ok (.ireturn, 1) := by decide +kernel
theorem dX10_log_0 : decode cX10_log 0 = .ok (.aload_n 0, 1) := by decide +kernel
theorem dX10_log_1 : decode cX10_log 1 = .ok (.iconst 0, 1) := by decide +kernel
theorem dX10_log_2 : decode cX10_log 2 = .ok (.putfield 121, 3) := by decide +kernel
theorem dX10_log_5 : decode cX10_log 5 = .ok (.iload_n 1, 1) := by decide +kernel
theorem dX10_log_6 : decode cX10_log 6 = .ok (.iconst 0, 1) := by decide +kernel
theorem dX10_log_7 : decode cX10_log 7 = .ok (.aload_n 0, 1) := by decide +kernel
theorem dX10_log_8 : decode cX10_log 8 = .ok (.getfield 209, 3) := by decide +kernel
theorem dX10_log_11 : decode cX10_log 11 = .ok (.iconst 1, 1) := by decide +kernel
theorem dX10_log_12 : decode cX10_log 12 = .ok (.isub, 1) := by decide +kernel
theorem dX10_log_13 : decode cX10_log 13 = .ok (.invokestatic 124, 3) := by decide +kernel
theorem dX10_log_16 : decode cX10_log 16 = .ok (.ifCond .eq 25, 3) := by decide +kernel
theorem dX10_log_19 : decode cX10_log 19 = .ok (.iload_n 2, 1) := by decide +kernel
theorem dX10_log_20 : decode cX10_log 20 = .ok (.iconst 0, 1) := by decide +kernel
theorem dX10_log_21 : decode cX10_log 21 = .ok (.iconst 3, 1) := by decide +kernel
theorem dX10_log_22 : decode cX10_log 22 = .ok (.invokestatic 124, 3) := by decide +kernel
theorem dX10_log_25 : decode cX10_log 25 = .ok (.ifCond .eq 16, 3) := by decide +kernel
theorem dX10_log_28 : decode cX10_log 28 = .ok (.aload_n 0, 1) := by decide +kernel
theorem dX10_log_29 : decode cX10_log 29 = .ok (.getfield 118, 3) := by decide +kernel
theorem dX10_log_32 : decode cX10_log 32 = .ok (.iconst 4, 1) := by decide +kernel
theorem dX10_log_33 : decode cX10_log 33 = .ok (.iload_n 1, 1) := by decide +kernel
theorem dX10_log_34 : decode cX10_log 34 = .ok (.imul, 1) := by decide +kernel
theorem dX10_log_35 : decode cX10_log 35 = .ok (.iload_n 2, 1) := by decide +kernel
theorem dX10_log_36 : decode cX10_log 36 = .ok (.iadd, 1) := by decide +kernel
theorem dX10_log_37 : decode cX10_log 37 = .ok (.iaload, 1) := by decide +kernel
theorem dX10_log_38 : decode cX10_log 38 = .ok (.goto 5, 3) := by decide +kernel
theorem dX10_log_41 : decode cX10_log 41 = .ok (.bipush (-2), 2) := by decide +kernel
theorem dX10_log_43 : decode cX10_log 43 = .ok (.ireturn, 1) := by decide +kernel

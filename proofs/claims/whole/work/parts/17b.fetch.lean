/-! fetch rows -/
theorem f150_0 : zF 150 0 = some (.aload_n 0, 1, [], 0) := rfl
theorem f150_1 : zF 150 1 = some (.invokespecial 1, 3, [8], 0) := rfl
theorem f150_4 : zF 150 4 = some (.aload_n 0, 1, [], 0) := rfl
theorem f150_5 : zF 150 5 = some (.sipush 270, 3, [], 0) := rfl
theorem f150_8 : zF 150 8 = some (.newarray .int, 2, [], 0) := rfl
theorem f150_10 : zF 150 10 = some (.putfield 7, 3, [10, 0, 2], 0) := rfl
theorem f150_13 : zF 150 13 = some (.aload_n 0, 1, [], 0) := rfl
theorem f150_14 : zF 150 14 = some (.sipush 1620, 3, [], 0) := rfl
theorem f150_17 : zF 150 17 = some (.newarray .int, 2, [], 0) := rfl
theorem f150_19 : zF 150 19 = some (.putfield 13, 3, [10, 1, 2], 0) := rfl
theorem f150_22 : zF 150 22 = some (.aload_n 0, 1, [], 0) := rfl
theorem f150_23 : zF 150 23 = some (.sipush 270, 3, [], 0) := rfl
theorem f150_26 : zF 150 26 = some (.newarray .int, 2, [], 0) := rfl
theorem f150_28 : zF 150 28 = some (.putfield 16, 3, [10, 3, 2], 0) := rfl
theorem f150_31 : zF 150 31 = some (.aload_n 0, 1, [], 0) := rfl
theorem f150_32 : zF 150 32 = some (.sipush 1620, 3, [], 0) := rfl
theorem f150_35 : zF 150 35 = some (.newarray .int, 2, [], 0) := rfl
theorem f150_37 : zF 150 37 = some (.putfield 19, 3, [10, 4, 2], 0) := rfl
theorem f150_40 : zF 150 40 = some (.aload_n 0, 1, [], 0) := rfl
theorem f150_41 : zF 150 41 = some (.iconst (-1), 1, [], 0) := rfl
theorem f150_42 : zF 150 42 = some (.putfield 22, 3, [10, 5, 0], 0) := rfl
theorem f150_45 : zF 150 45 = some (.aload_n 0, 1, [], 0) := rfl
theorem f150_46 : zF 150 46 = some (.bipush 60, 2, [], 0) := rfl
theorem f150_48 : zF 150 48 = some (.newarray .int, 2, [], 0) := rfl
theorem f150_50 : zF 150 50 = some (.putfield 26, 3, [10, 6, 2], 0) := rfl
theorem f150_53 : zF 150 53 = some (.aload_n 0, 1, [], 0) := rfl
theorem f150_54 : zF 150 54 = some (.iconst 4, 1, [], 0) := rfl
theorem f150_55 : zF 150 55 = some (.newarray .int, 2, [], 0) := rfl
theorem f150_57 : zF 150 57 = some (.putfield 29, 3, [10, 8, 2], 0) := rfl
theorem f150_60 : zF 150 60 = some (.aload_n 0, 1, [], 0) := rfl
theorem f150_61 : zF 150 61 = some (.iconst 4, 1, [], 0) := rfl
theorem f150_62 : zF 150 62 = some (.newarray .int, 2, [], 0) := rfl
theorem f150_64 : zF 150 64 = some (.putfield 32, 3, [10, 9, 2], 0) := rfl
theorem f150_67 : zF 150 67 = some (.aload_n 0, 1, [], 0) := rfl
theorem f150_68 : zF 150 68 = some (.bipush 96, 2, [], 0) := rfl
theorem f150_70 : zF 150 70 = some (.newarray .long, 2, [], 0) := rfl
theorem f150_72 : zF 150 72 = some (.putfield 35, 3, [10, 10, 2], 0) := rfl
theorem f150_75 : zF 150 75 = some (.aload_n 0, 1, [], 0) := rfl
theorem f150_76 : zF 150 76 = some (.bipush 24, 2, [], 0) := rfl
theorem f150_78 : zF 150 78 = some (.newarray .long, 2, [], 0) := rfl
theorem f150_80 : zF 150 80 = some (.putfield 39, 3, [10, 11, 2], 0) := rfl
theorem f150_83 : zF 150 83 = some (.aload_n 0, 1, [], 0) := rfl
theorem f150_84 : zF 150 84 = some (.bipush 120, 2, [], 0) := rfl
theorem f150_86 : zF 150 86 = some (.newarray .int, 2, [], 0) := rfl
theorem f150_88 : zF 150 88 = some (.putfield 42, 3, [10, 12, 2], 0) := rfl
theorem f150_91 : zF 150 91 = some (.aload_n 0, 1, [], 0) := rfl
theorem f150_92 : zF 150 92 = some (.bipush 120, 2, [], 0) := rfl
theorem f150_94 : zF 150 94 = some (.newarray .int, 2, [], 0) := rfl
theorem f150_96 : zF 150 96 = some (.putfield 45, 3, [10, 13, 2], 0) := rfl
theorem f150_99 : zF 150 99 = some (.aload_n 0, 1, [], 0) := rfl
theorem f150_100 : zF 150 100 = some (.bipush 120, 2, [], 0) := rfl
theorem f150_102 : zF 150 102 = some (.newarray .int, 2, [], 0) := rfl
theorem f150_104 : zF 150 104 = some (.putfield 48, 3, [10, 14, 2], 0) := rfl
theorem f150_107 : zF 150 107 = some (.aload_n 0, 1, [], 0) := rfl
theorem f150_108 : zF 150 108 = some (.iconst 4, 1, [], 0) := rfl
theorem f150_109 : zF 150 109 = some (.newarray .int, 2, [], 0) := rfl
theorem f150_111 : zF 150 111 = some (.putfield 51, 3, [10, 15, 2], 0) := rfl
theorem f150_114 : zF 150 114 = some (.aload_n 0, 1, [], 0) := rfl
theorem f150_115 : zF 150 115 = some (.iconst 4, 1, [], 0) := rfl
theorem f150_116 : zF 150 116 = some (.newarray .int, 2, [], 0) := rfl
theorem f150_118 : zF 150 118 = some (.putfield 54, 3, [10, 16, 2], 0) := rfl
theorem f150_121 : zF 150 121 = some (.aload_n 0, 1, [], 0) := rfl
theorem f150_122 : zF 150 122 = some (.iconst 4, 1, [], 0) := rfl
theorem f150_123 : zF 150 123 = some (.newarray .int, 2, [], 0) := rfl
theorem f150_125 : zF 150 125 = some (.putfield 57, 3, [10, 17, 2], 0) := rfl
theorem f150_128 : zF 150 128 = some (.aload_n 0, 1, [], 0) := rfl
theorem f150_129 : zF 150 129 = some (.iconst 4, 1, [], 0) := rfl
theorem f150_130 : zF 150 130 = some (.newarray .int, 2, [], 0) := rfl
theorem f150_132 : zF 150 132 = some (.putfield 60, 3, [10, 18, 2], 0) := rfl
theorem f150_135 : zF 150 135 = some (.aload_n 0, 1, [], 0) := rfl
theorem f150_136 : zF 150 136 = some (.iconst 4, 1, [], 0) := by decide +kernel
theorem f150_137 : zF 150 137 = some (.newarray .int, 2, [], 0) := by decide +kernel
theorem f150_139 : zF 150 139 = some (.putfield 63, 3, [10, 19, 2], 0) := by decide +kernel
theorem f150_142 : zF 150 142 = some (.aload_n 0, 1, [], 0) := by decide +kernel
theorem f150_143 : zF 150 143 = some (.iconst 4, 1, [], 0) := by decide +kernel
theorem f150_144 : zF 150 144 = some (.newarray .int, 2, [], 0) := by decide +kernel
theorem f150_146 : zF 150 146 = some (.putfield 66, 3, [10, 20, 2], 0) := by decide +kernel
theorem f150_149 : zF 150 149 = some (.aload_n 0, 1, [], 0) := by decide +kernel
theorem f150_150 : zF 150 150 = some (.bipush 6, 2, [], 0) := by decide +kernel
theorem f150_152 : zF 150 152 = some (.newarray .int, 2, [], 0) := by decide +kernel
theorem f150_154 : zF 150 154 = some (.putfield 69, 3, [10, 22, 2], 0) := by decide +kernel
theorem f150_157 : zF 150 157 = some (.aload_n 0, 1, [], 0) := by decide +kernel
theorem f150_158 : zF 150 158 = some (.bipush 6, 2, [], 0) := by decide +kernel
theorem f150_160 : zF 150 160 = some (.newarray .int, 2, [], 0) := by decide +kernel
theorem f150_162 : zF 150 162 = some (.putfield 72, 3, [10, 23, 2], 0) := by decide +kernel
theorem f150_165 : zF 150 165 = some (.aload_n 0, 1, [], 0) := by decide +kernel
theorem f150_166 : zF 150 166 = some (.bipush 6, 2, [], 0) := by decide +kernel
theorem f150_168 : zF 150 168 = some (.newarray .int, 2, [], 0) := by decide +kernel
theorem f150_170 : zF 150 170 = some (.putfield 75, 3, [10, 24, 2], 0) := by decide +kernel
theorem f150_173 : zF 150 173 = some (.aload_n 0, 1, [], 0) := by decide +kernel
theorem f150_174 : zF 150 174 = some (.bipush 6, 2, [], 0) := by decide +kernel
theorem f150_176 : zF 150 176 = some (.newarray .int, 2, [], 0) := by decide +kernel
theorem f150_178 : zF 150 178 = some (.putfield 78, 3, [10, 25, 2], 0) := by decide +kernel
theorem f150_181 : zF 150 181 = some (.aload_n 0, 1, [], 0) := by decide +kernel
theorem f150_182 : zF 150 182 = some (.bipush 31, 2, [], 0) := by decide +kernel
theorem f150_184 : zF 150 184 = some (.newarray .int, 2, [], 0) := by decide +kernel
theorem f150_186 : zF 150 186 = some (.putfield 81, 3, [10, 27, 2], 0) := by decide +kernel
theorem f150_189 : zF 150 189 = some (.aload_n 0, 1, [], 0) := by decide +kernel
theorem f150_190 : zF 150 190 = some (.bipush 31, 2, [], 0) := by decide +kernel
theorem f150_192 : zF 150 192 = some (.newarray .int, 2, [], 0) := by decide +kernel
theorem f150_194 : zF 150 194 = some (.putfield 84, 3, [10, 28, 2], 0) := by decide +kernel
theorem f150_197 : zF 150 197 = some (.aload_n 0, 1, [], 0) := by decide +kernel
theorem f150_198 : zF 150 198 = some (.bipush 6, 2, [], 0) := by decide +kernel
theorem f150_200 : zF 150 200 = some (.newarray .int, 2, [], 0) := by decide +kernel
theorem f150_202 : zF 150 202 = some (.putfield 87, 3, [10, 30, 2], 0) := by decide +kernel
theorem f150_205 : zF 150 205 = some (.aload_n 0, 1, [], 0) := by decide +kernel
theorem f150_206 : zF 150 206 = some (.sipush 270, 3, [], 0) := by decide +kernel
theorem f150_209 : zF 150 209 = some (.newarray .int, 2, [], 0) := by decide +kernel
theorem f150_211 : zF 150 211 = some (.putfield 90, 3, [10, 33, 2], 0) := by decide +kernel
theorem f150_214 : zF 150 214 = some (.aload_n 0, 1, [], 0) := by decide +kernel
theorem f150_215 : zF 150 215 = some (.bipush 60, 2, [], 0) := by decide +kernel
theorem f150_217 : zF 150 217 = some (.newarray .int, 2, [], 0) := by decide +kernel
theorem f150_219 : zF 150 219 = some (.putfield 93, 3, [10, 35, 2], 0) := by decide +kernel
theorem f150_222 : zF 150 222 = some (.aload_n 0, 1, [], 0) := by decide +kernel
theorem f150_223 : zF 150 223 = some (.bipush 6, 2, [], 0) := by decide +kernel
theorem f150_225 : zF 150 225 = some (.newarray .int, 2, [], 0) := by decide +kernel
theorem f150_227 : zF 150 227 = some (.putfield 96, 3, [10, 38, 2], 0) := by decide +kernel
theorem f150_230 : zF 150 230 = some (.aload_n 0, 1, [], 0) := by decide +kernel
theorem f150_231 : zF 150 231 = some (.sipush 961, 3, [], 0) := by decide +kernel
theorem f150_234 : zF 150 234 = some (.newarray .long, 2, [], 0) := by decide +kernel
theorem f150_236 : zF 150 236 = some (.putfield 99, 3, [10, 39, 2], 0) := by decide +kernel
theorem f150_239 : zF 150 239 = some (.aload_n 0, 1, [], 0) := by decide +kernel
theorem f150_240 : zF 150 240 = some (.sipush 961, 3, [], 0) := by decide +kernel
theorem f150_243 : zF 150 243 = some (.newarray .long, 2, [], 0) := by decide +kernel
theorem f150_245 : zF 150 245 = some (.putfield 102, 3, [10, 40, 2], 0) := by decide +kernel
theorem f150_248 : zF 150 248 = some (.aload_n 0, 1, [], 0) := by decide +kernel
theorem f150_249 : zF 150 249 = some (.bipush 31, 2, [], 0) := by decide +kernel
theorem f150_251 : zF 150 251 = some (.newarray .int, 2, [], 0) := by decide +kernel
theorem f150_253 : zF 150 253 = some (.putfield 105, 3, [10, 41, 2], 0) := by decide +kernel
theorem f150_256 : zF 150 256 = some (.aload_n 0, 1, [], 0) := by decide +kernel
theorem f150_257 : zF 150 257 = some (.bipush 31, 2, [], 0) := by decide +kernel
theorem f150_259 : zF 150 259 = some (.newarray .int, 2, [], 0) := by decide +kernel
theorem f150_261 : zF 150 261 = some (.putfield 108, 3, [10, 42, 2], 0) := by decide +kernel
theorem f150_264 : zF 150 264 = some (.aload_n 0, 1, [], 0) := by decide +kernel
theorem f150_265 : zF 150 265 = some (.getfield 7, 3, [10, 0, 2], 0) := by decide +kernel
theorem f150_268 : zF 150 268 = some (.iconst 3, 1, [], 0) := by decide +kernel
theorem f150_269 : zF 150 269 = some (.iconst 1, 1, [], 0) := by decide +kernel
theorem f150_270 : zF 150 270 = some (.iastore, 1, [], 0) := by decide +kernel
theorem f150_271 : zF 150 271 = some (.iconst 0, 1, [], 0) := by decide +kernel
theorem f150_272 : zF 150 272 = some (.istore_n 1, 1, [], 0) := by decide +kernel
theorem f150_273 : zF 150 273 = some (.iload_n 1, 1, [], 0) := by decide +kernel
theorem f150_274 : zF 150 274 = some (.iconst 4, 1, [], 0) := by decide +kernel
theorem f150_275 : zF 150 275 = some (.if_icmp .ge 17, 3, [], 0) := by decide +kernel
theorem f150_278 : zF 150 278 = some (.aload_n 0, 1, [], 0) := by decide +kernel
theorem f150_279 : zF 150 279 = some (.iload_n 1, 1, [], 0) := by decide +kernel
theorem f150_280 : zF 150 280 = some (.iconst 2, 1, [], 0) := by decide +kernel
theorem f150_281 : zF 150 281 = some (.bipush (-4), 2, [], 0) := by decide +kernel
theorem f150_283 : zF 150 283 = some (.invokevirtual 111, 3, [0, 157, 10, 4, 4, 0, 0], 0) := by decide +kernel
theorem f150_286 : zF 150 286 = some (.iinc 1 1, 3, [], 0) := by decide +kernel
theorem f150_289 : zF 150 289 = some (.goto (-16), 3, [], 0) := by decide +kernel
theorem f150_292 : zF 150 292 = some (.iconst 0, 1, [], 0) := by decide +kernel
theorem f150_293 : zF 150 293 = some (.istore_n 1, 1, [], 0) := by decide +kernel
theorem f150_294 : zF 150 294 = some (.iload_n 1, 1, [], 0) := by decide +kernel
theorem f150_295 : zF 150 295 = some (.iconst 4, 1, [], 0) := by decide +kernel
theorem f150_296 : zF 150 296 = some (.if_icmp .ge 16, 3, [], 0) := by decide +kernel
theorem f150_299 : zF 150 299 = some (.aload_n 0, 1, [], 0) := by decide +kernel
theorem f150_300 : zF 150 300 = some (.getfield 29, 3, [10, 8, 2], 0) := by decide +kernel
theorem f150_303 : zF 150 303 = some (.iload_n 1, 1, [], 0) := by decide +kernel
theorem f150_304 : zF 150 304 = some (.iconst (-1), 1, [], 0) := by decide +kernel
theorem f150_305 : zF 150 305 = some (.iastore, 1, [], 0) := by decide +kernel
theorem f150_306 : zF 150 306 = some (.iinc 1 1, 3, [], 0) := by decide +kernel
theorem f150_309 : zF 150 309 = some (.goto (-15), 3, [], 0) := by decide +kernel
theorem f150_312 : zF 150 312 = some (.aload_n 0, 1, [], 0) := by decide +kernel
theorem f150_313 : zF 150 313 = some (.invokevirtual 115, 3, [0, 169, 10, 1, 2, 0, 0], 0) := by decide +kernel
theorem f150_316 : zF 150 316 = some (.pop, 1, [], 0) := by decide +kernel
theorem f150_317 : zF 150 317 = some (.return_, 1, [], 0) := by decide +kernel
theorem f151_0 : zF 151 0 = some (.lload_n 0, 1, [], 0) := rfl
theorem f151_1 : zF 151 1 = some (.lload_n 2, 1, [], 0) := rfl
theorem f151_2 : zF 151 2 = some (.lcmp, 1, [], 0) := rfl
theorem f151_3 : zF 151 3 = some (.ifCond .lt 14, 3, [], 0) := rfl
theorem f151_6 : zF 151 6 = some (.lload_n 0, 1, [], 0) := rfl
theorem f151_7 : zF 151 7 = some (.lload 4, 2, [], 0) := rfl
theorem f151_9 : zF 151 9 = some (.lcmp, 1, [], 0) := rfl
theorem f151_10 : zF 151 10 = some (.ifCond .gt 7, 3, [], 0) := rfl
theorem f151_13 : zF 151 13 = some (.iconst 1, 1, [], 0) := rfl
theorem f151_14 : zF 151 14 = some (.goto 4, 3, [], 0) := rfl
theorem f151_17 : zF 151 17 = some (.iconst 0, 1, [], 0) := rfl
theorem f151_18 : zF 151 18 = some (.ireturn, 1, [1], 0) := rfl
theorem f152_0 : zF 152 0 = some (.iload_n 0, 1, [], 0) := rfl
theorem f152_1 : zF 152 1 = some (.iload_n 1, 1, [], 0) := rfl
theorem f152_2 : zF 152 2 = some (.ishr, 1, [], 0) := rfl
theorem f152_3 : zF 152 3 = some (.iconst 1, 1, [], 0) := rfl
theorem f152_4 : zF 152 4 = some (.iand, 1, [], 0) := rfl
theorem f152_5 : zF 152 5 = some (.iconst 1, 1, [], 0) := rfl
theorem f152_6 : zF 152 6 = some (.if_icmp .ne 7, 3, [], 0) := rfl
theorem f152_9 : zF 152 9 = some (.iconst 1, 1, [], 0) := rfl
theorem f152_10 : zF 152 10 = some (.goto 4, 3, [], 0) := rfl
theorem f152_13 : zF 152 13 = some (.iconst 0, 1, [], 0) := rfl
theorem f152_14 : zF 152 14 = some (.ireturn, 1, [1], 0) := rfl
theorem f153_0 : zF 153 0 = some (.iconst 0, 1, [], 0) := rfl
theorem f153_1 : zF 153 1 = some (.istore_n 1, 1, [], 0) := rfl
theorem f153_2 : zF 153 2 = some (.iload_n 0, 1, [], 0) := rfl
theorem f153_3 : zF 153 3 = some (.istore_n 2, 1, [], 0) := rfl
theorem f153_4 : zF 153 4 = some (.iload_n 2, 1, [], 0) := rfl
theorem f153_5 : zF 153 5 = some (.ifCond .eq 15, 3, [], 0) := rfl
theorem f153_8 : zF 153 8 = some (.iinc 1 1, 3, [], 0) := rfl
theorem f153_11 : zF 153 11 = some (.iload_n 2, 1, [], 0) := rfl
theorem f153_12 : zF 153 12 = some (.iload_n 2, 1, [], 0) := rfl
theorem f153_13 : zF 153 13 = some (.iconst 1, 1, [], 0) := rfl
theorem f153_14 : zF 153 14 = some (.isub, 1, [], 0) := rfl
theorem f153_15 : zF 153 15 = some (.iand, 1, [], 0) := rfl
theorem f153_16 : zF 153 16 = some (.istore_n 2, 1, [], 0) := rfl
theorem f153_17 : zF 153 17 = some (.goto (-13), 3, [], 0) := rfl
theorem f153_20 : zF 153 20 = some (.iload_n 1, 1, [], 0) := rfl
theorem f153_21 : zF 153 21 = some (.ireturn, 1, [0], 0) := rfl
theorem f154_0 : zF 154 0 = some (.lload_n 0, 1, [], 0) := rfl
theorem f154_1 : zF 154 1 = some (.lconst 0, 1, [], 0) := rfl
theorem f154_2 : zF 154 2 = some (.ldc2_w 119, 3, [], 3) := rfl
theorem f154_5 : zF 154 5 = some (.invokestatic 121, 3, [1, 151, 0, 3, 6, 0, 0], 0) := rfl
theorem f154_8 : zF 154 8 = some (.ireturn, 1, [1], 0) := rfl
theorem f155_0 : zF 155 0 = some (.iload_n 0, 1, [], 0) := rfl
theorem f155_1 : zF 155 1 = some (.i2l, 1, [], 0) := rfl
theorem f155_2 : zF 155 2 = some (.lconst 0, 1, [], 0) := rfl
theorem f155_3 : zF 155 3 = some (.ldc2_w 125, 3, [], 5) := rfl
theorem f155_6 : zF 155 6 = some (.invokestatic 121, 3, [1, 151, 0, 3, 6, 0, 0], 0) := rfl
theorem f155_9 : zF 155 9 = some (.ireturn, 1, [1], 0) := rfl
theorem f156_0 : zF 156 0 = some (.aload_n 0, 1, [], 0) := rfl
theorem f156_1 : zF 156 1 = some (.getfield 7, 3, [10, 0, 2], 0) := rfl
theorem f156_4 : zF 156 4 = some (.bipush 10, 2, [], 0) := rfl
theorem f156_6 : zF 156 6 = some (.iconst 4, 1, [], 0) := rfl
theorem f156_7 : zF 156 7 = some (.iload_n 1, 1, [], 0) := rfl
theorem f156_8 : zF 156 8 = some (.imul, 1, [], 0) := rfl
theorem f156_9 : zF 156 9 = some (.iadd, 1, [], 0) := rfl
theorem f156_10 : zF 156 10 = some (.iload_n 2, 1, [], 0) := rfl
theorem f156_11 : zF 156 11 = some (.iadd, 1, [], 0) := rfl
theorem f156_12 : zF 156 12 = some (.iaload, 1, [], 0) := rfl
theorem f156_13 : zF 156 13 = some (.ireturn, 1, [0], 0) := rfl
theorem f157_0 : zF 157 0 = some (.aload_n 0, 1, [], 0) := rfl
theorem f157_1 : zF 157 1 = some (.getfield 7, 3, [10, 0, 2], 0) := rfl
theorem f157_4 : zF 157 4 = some (.bipush 10, 2, [], 0) := rfl
theorem f157_6 : zF 157 6 = some (.iconst 4, 1, [], 0) := rfl
theorem f157_7 : zF 157 7 = some (.iload_n 1, 1, [], 0) := rfl
theorem f157_8 : zF 157 8 = some (.imul, 1, [], 0) := rfl
theorem f157_9 : zF 157 9 = some (.iadd, 1, [], 0) := rfl
theorem f157_10 : zF 157 10 = some (.iload_n 2, 1, [], 0) := rfl
theorem f157_11 : zF 157 11 = some (.iadd, 1, [], 0) := rfl
theorem f157_12 : zF 157 12 = some (.iload_n 3, 1, [], 0) := rfl
theorem f157_13 : zF 157 13 = some (.iastore, 1, [], 0) := rfl
theorem f157_14 : zF 157 14 = some (.return_, 1, [], 0) := rfl
theorem f158_0 : zF 158 0 = some (.aload_n 0, 1, [], 0) := rfl
theorem f158_1 : zF 158 1 = some (.getfield 51, 3, [10, 15, 2], 0) := rfl
theorem f158_4 : zF 158 4 = some (.iload_n 1, 1, [], 0) := rfl
theorem f158_5 : zF 158 5 = some (.iaload, 1, [], 0) := rfl
theorem f158_6 : zF 158 6 = some (.bipush 30, 2, [], 0) := rfl
theorem f158_8 : zF 158 8 = some (.if_icmp .ne 11, 3, [], 0) := rfl
theorem f158_11 : zF 158 11 = some (.aload_n 0, 1, [], 0) := rfl
theorem f158_12 : zF 158 12 = some (.iconst 1, 1, [], 0) := rfl
theorem f158_13 : zF 158 13 = some (.putfield 127, 3, [10, 21, 3], 0) := rfl
theorem f158_16 : zF 158 16 = some (.goto 65, 3, [], 0) := rfl
theorem f158_19 : zF 158 19 = some (.aload_n 0, 1, [], 0) := rfl
theorem f158_20 : zF 158 20 = some (.getfield 42, 3, [10, 12, 2], 0) := rfl
theorem f158_23 : zF 158 23 = some (.bipush 30, 2, [], 0) := rfl
theorem f158_25 : zF 158 25 = some (.iload_n 1, 1, [], 0) := rfl
theorem f158_26 : zF 158 26 = some (.imul, 1, [], 0) := rfl
theorem f158_27 : zF 158 27 = some (.aload_n 0, 1, [], 0) := rfl
theorem f158_28 : zF 158 28 = some (.getfield 51, 3, [10, 15, 2], 0) := rfl
theorem f158_31 : zF 158 31 = some (.iload_n 1, 1, [], 0) := rfl
theorem f158_32 : zF 158 32 = some (.iaload, 1, [], 0) := rfl
theorem f158_33 : zF 158 33 = some (.iadd, 1, [], 0) := rfl
theorem f158_34 : zF 158 34 = some (.iload_n 2, 1, [], 0) := rfl
theorem f158_35 : zF 158 35 = some (.iastore, 1, [], 0) := rfl
theorem f158_36 : zF 158 36 = some (.aload_n 0, 1, [], 0) := rfl
theorem f158_37 : zF 158 37 = some (.getfield 45, 3, [10, 13, 2], 0) := rfl
theorem f158_40 : zF 158 40 = some (.bipush 30, 2, [], 0) := rfl
theorem f158_42 : zF 158 42 = some (.iload_n 1, 1, [], 0) := rfl
theorem f158_43 : zF 158 43 = some (.imul, 1, [], 0) := rfl
theorem f158_44 : zF 158 44 = some (.aload_n 0, 1, [], 0) := rfl
theorem f158_45 : zF 158 45 = some (.getfield 51, 3, [10, 15, 2], 0) := rfl
theorem f158_48 : zF 158 48 = some (.iload_n 1, 1, [], 0) := rfl
theorem f158_49 : zF 158 49 = some (.iaload, 1, [], 0) := rfl
theorem f158_50 : zF 158 50 = some (.iadd, 1, [], 0) := rfl
theorem f158_51 : zF 158 51 = some (.iload_n 3, 1, [], 0) := rfl
theorem f158_52 : zF 158 52 = some (.iastore, 1, [], 0) := rfl
theorem f158_53 : zF 158 53 = some (.aload_n 0, 1, [], 0) := rfl
theorem f158_54 : zF 158 54 = some (.getfield 48, 3, [10, 14, 2], 0) := rfl
theorem f158_57 : zF 158 57 = some (.bipush 30, 2, [], 0) := rfl
theorem f158_59 : zF 158 59 = some (.iload_n 1, 1, [], 0) := rfl
theorem f158_60 : zF 158 60 = some (.imul, 1, [], 0) := rfl
theorem f158_61 : zF 158 61 = some (.aload_n 0, 1, [], 0) := rfl
theorem f158_62 : zF 158 62 = some (.getfield 51, 3, [10, 15, 2], 0) := rfl
theorem f158_65 : zF 158 65 = some (.iload_n 1, 1, [], 0) := rfl
theorem f158_66 : zF 158 66 = some (.iaload, 1, [], 0) := rfl
theorem f158_67 : zF 158 67 = some (.iadd, 1, [], 0) := rfl
theorem f158_68 : zF 158 68 = some (.iload 4, 2, [], 0) := rfl
theorem f158_70 : zF 158 70 = some (.iastore, 1, [], 0) := rfl
theorem f158_71 : zF 158 71 = some (.aload_n 0, 1, [], 0) := rfl
theorem f158_72 : zF 158 72 = some (.getfield 51, 3, [10, 15, 2], 0) := rfl
theorem f158_75 : zF 158 75 = some (.iload_n 1, 1, [], 0) := rfl
theorem f158_76 : zF 158 76 = some (.dup2, 1, [], 0) := rfl
theorem f158_77 : zF 158 77 = some (.iaload, 1, [], 0) := rfl
theorem f158_78 : zF 158 78 = some (.iconst 1, 1, [], 0) := rfl
theorem f158_79 : zF 158 79 = some (.iadd, 1, [], 0) := rfl
theorem f158_80 : zF 158 80 = some (.iastore, 1, [], 0) := rfl
theorem f158_81 : zF 158 81 = some (.return_, 1, [], 0) := rfl
theorem f159_0 : zF 159 0 = some (.aload_n 0, 1, [], 0) := rfl
theorem f159_1 : zF 159 1 = some (.getfield 69, 3, [10, 22, 2], 0) := rfl
theorem f159_4 : zF 159 4 = some (.aload_n 0, 1, [], 0) := rfl
theorem f159_5 : zF 159 5 = some (.getfield 131, 3, [10, 26, 0], 0) := rfl
theorem f159_8 : zF 159 8 = some (.iload_n 1, 1, [], 0) := rfl
theorem f159_9 : zF 159 9 = some (.iastore, 1, [], 0) := rfl
theorem f159_10 : zF 159 10 = some (.aload_n 0, 1, [], 0) := rfl
theorem f159_11 : zF 159 11 = some (.getfield 72, 3, [10, 23, 2], 0) := rfl
theorem f159_14 : zF 159 14 = some (.aload_n 0, 1, [], 0) := rfl
theorem f159_15 : zF 159 15 = some (.getfield 131, 3, [10, 26, 0], 0) := rfl
theorem f159_18 : zF 159 18 = some (.aload_n 0, 1, [], 0) := rfl
theorem f159_19 : zF 159 19 = some (.getfield 134, 3, [10, 31, 0], 0) := rfl
theorem f159_22 : zF 159 22 = some (.iastore, 1, [], 0) := rfl
theorem f159_23 : zF 159 23 = some (.aload_n 0, 1, [], 0) := rfl
theorem f159_24 : zF 159 24 = some (.getfield 75, 3, [10, 24, 2], 0) := rfl
theorem f159_27 : zF 159 27 = some (.aload_n 0, 1, [], 0) := rfl
theorem f159_28 : zF 159 28 = some (.getfield 131, 3, [10, 26, 0], 0) := rfl
theorem f159_31 : zF 159 31 = some (.iload_n 2, 1, [], 0) := rfl
theorem f159_32 : zF 159 32 = some (.iastore, 1, [], 0) := rfl
theorem f159_33 : zF 159 33 = some (.aload_n 0, 1, [], 0) := rfl
theorem f159_34 : zF 159 34 = some (.getfield 78, 3, [10, 25, 2], 0) := rfl
theorem f159_37 : zF 159 37 = some (.aload_n 0, 1, [], 0) := rfl
theorem f159_38 : zF 159 38 = some (.getfield 131, 3, [10, 26, 0], 0) := rfl
theorem f159_41 : zF 159 41 = some (.aload_n 0, 1, [], 0) := rfl
theorem f159_42 : zF 159 42 = some (.getfield 137, 3, [10, 29, 0], 0) := rfl
theorem f159_45 : zF 159 45 = some (.iastore, 1, [], 0) := rfl
theorem f159_46 : zF 159 46 = some (.aload_n 0, 1, [], 0) := rfl
theorem f159_47 : zF 159 47 = some (.dup, 1, [], 0) := rfl
theorem f159_48 : zF 159 48 = some (.getfield 131, 3, [10, 26, 0], 0) := rfl
theorem f159_51 : zF 159 51 = some (.iconst 1, 1, [], 0) := rfl
theorem f159_52 : zF 159 52 = some (.iadd, 1, [], 0) := rfl
theorem f159_53 : zF 159 53 = some (.putfield 131, 3, [10, 26, 0], 0) := rfl
theorem f159_56 : zF 159 56 = some (.return_, 1, [], 0) := rfl
theorem f160_0 : zF 160 0 = some (.aload_n 0, 1, [], 0) := rfl
theorem f160_1 : zF 160 1 = some (.iload_n 1, 1, [], 0) := rfl
theorem f160_2 : zF 160 2 = some (.iconst 0, 1, [], 0) := rfl
theorem f160_3 : zF 160 3 = some (.iload_n 2, 1, [], 0) := rfl
theorem f160_4 : zF 160 4 = some (.iconst 0, 1, [], 0) := rfl
theorem f160_5 : zF 160 5 = some (.invokevirtual 140, 3, [0, 158, 10, 5, 5, 0, 0], 0) := rfl
theorem f160_8 : zF 160 8 = some (.aload_n 0, 1, [], 0) := rfl
theorem f160_9 : zF 160 9 = some (.getfield 63, 3, [10, 19, 2], 0) := rfl
theorem f160_12 : zF 160 12 = some (.iload_n 1, 1, [], 0) := rfl
theorem f160_13 : zF 160 13 = some (.dup2, 1, [], 0) := rfl
theorem f160_14 : zF 160 14 = some (.iaload, 1, [], 0) := rfl
theorem f160_15 : zF 160 15 = some (.aload_n 0, 1, [], 0) := rfl
theorem f160_16 : zF 160 16 = some (.getfield 87, 3, [10, 30, 2], 0) := rfl
theorem f160_19 : zF 160 19 = some (.iload_n 2, 1, [], 0) := rfl
theorem f160_20 : zF 160 20 = some (.iaload, 1, [], 0) := rfl
theorem f160_21 : zF 160 21 = some (.ifCond .le 7, 3, [], 0) := rfl
theorem f160_24 : zF 160 24 = some (.iconst 1, 1, [], 0) := rfl
theorem f160_25 : zF 160 25 = some (.goto 4, 3, [], 0) := rfl
theorem f160_28 : zF 160 28 = some (.iconst 0, 1, [], 0) := rfl
theorem f160_29 : zF 160 29 = some (.iadd, 1, [], 0) := rfl
theorem f160_30 : zF 160 30 = some (.iastore, 1, [], 0) := rfl
theorem f160_31 : zF 160 31 = some (.aload_n 0, 1, [], 0) := rfl
theorem f160_32 : zF 160 32 = some (.getfield 87, 3, [10, 30, 2], 0) := rfl
theorem f160_35 : zF 160 35 = some (.iload_n 2, 1, [], 0) := rfl
theorem f160_36 : zF 160 36 = some (.dup2, 1, [], 0) := rfl
theorem f160_37 : zF 160 37 = some (.iaload, 1, [], 0) := rfl
theorem f160_38 : zF 160 38 = some (.iconst 1, 1, [], 0) := rfl
theorem f160_39 : zF 160 39 = some (.iadd, 1, [], 0) := rfl
theorem f160_40 : zF 160 40 = some (.iastore, 1, [], 0) := rfl
theorem f160_41 : zF 160 41 = some (.aload_n 0, 1, [], 0) := rfl
theorem f160_42 : zF 160 42 = some (.dup, 1, [], 0) := rfl
theorem f160_43 : zF 160 43 = some (.getfield 144, 3, [10, 32, 0], 0) := rfl
theorem f160_46 : zF 160 46 = some (.iconst 1, 1, [], 0) := rfl
theorem f160_47 : zF 160 47 = some (.iadd, 1, [], 0) := rfl
theorem f160_48 : zF 160 48 = some (.putfield 144, 3, [10, 32, 0], 0) := rfl
theorem f160_51 : zF 160 51 = some (.aload_n 0, 1, [], 0) := rfl
theorem f160_52 : zF 160 52 = some (.getfield 66, 3, [10, 20, 2], 0) := rfl
theorem f160_55 : zF 160 55 = some (.iload_n 1, 1, [], 0) := rfl
theorem f160_56 : zF 160 56 = some (.aload_n 0, 1, [], 0) := rfl
theorem f160_57 : zF 160 57 = some (.getfield 144, 3, [10, 32, 0], 0) := rfl
theorem f160_60 : zF 160 60 = some (.aload_n 0, 1, [], 0) := rfl
theorem f160_61 : zF 160 61 = some (.getfield 66, 3, [10, 20, 2], 0) := rfl
theorem f160_64 : zF 160 64 = some (.iload_n 1, 1, [], 0) := rfl
theorem f160_65 : zF 160 65 = some (.iaload, 1, [], 0) := rfl
theorem f160_66 : zF 160 66 = some (.if_icmp .le 10, 3, [], 0) := rfl
theorem f160_69 : zF 160 69 = some (.aload_n 0, 1, [], 0) := rfl
theorem f160_70 : zF 160 70 = some (.getfield 144, 3, [10, 32, 0], 0) := rfl
theorem f160_73 : zF 160 73 = some (.goto 9, 3, [], 0) := rfl
theorem f160_76 : zF 160 76 = some (.aload_n 0, 1, [], 0) := rfl
theorem f160_77 : zF 160 77 = some (.getfield 66, 3, [10, 20, 2], 0) := rfl
theorem f160_80 : zF 160 80 = some (.iload_n 1, 1, [], 0) := rfl
theorem f160_81 : zF 160 81 = some (.iaload, 1, [], 0) := rfl
theorem f160_82 : zF 160 82 = some (.iastore, 1, [], 0) := rfl
theorem f160_83 : zF 160 83 = some (.aload_n 0, 1, [], 0) := rfl
theorem f160_84 : zF 160 84 = some (.iconst 0, 1, [], 0) := rfl
theorem f160_85 : zF 160 85 = some (.iload_n 2, 1, [], 0) := rfl
theorem f160_86 : zF 160 86 = some (.invokevirtual 147, 3, [0, 159, 10, 3, 3, 0, 0], 0) := rfl
theorem f160_89 : zF 160 89 = some (.return_, 1, [], 0) := rfl
theorem f161_0 : zF 161 0 = some (.aload_n 0, 1, [], 0) := rfl
theorem f161_1 : zF 161 1 = some (.iload_n 1, 1, [], 0) := rfl
theorem f161_2 : zF 161 2 = some (.iconst 1, 1, [], 0) := rfl
theorem f161_3 : zF 161 3 = some (.aload_n 0, 1, [], 0) := rfl
theorem f161_4 : zF 161 4 = some (.getfield 75, 3, [10, 24, 2], 0) := rfl
theorem f161_7 : zF 161 7 = some (.aload_n 0, 1, [], 0) := rfl
theorem f161_8 : zF 161 8 = some (.getfield 131, 3, [10, 26, 0], 0) := rfl
theorem f161_11 : zF 161 11 = some (.iaload, 1, [], 0) := rfl
theorem f161_12 : zF 161 12 = some (.iconst 0, 1, [], 0) := rfl
theorem f161_13 : zF 161 13 = some (.invokevirtual 140, 3, [0, 158, 10, 5, 5, 0, 0], 0) := rfl
theorem f161_16 : zF 161 16 = some (.aload_n 0, 1, [], 0) := rfl
theorem f161_17 : zF 161 17 = some (.getfield 87, 3, [10, 30, 2], 0) := rfl
theorem f161_20 : zF 161 20 = some (.aload_n 0, 1, [], 0) := rfl
theorem f161_21 : zF 161 21 = some (.getfield 75, 3, [10, 24, 2], 0) := rfl
theorem f161_24 : zF 161 24 = some (.aload_n 0, 1, [], 0) := rfl
theorem f161_25 : zF 161 25 = some (.getfield 131, 3, [10, 26, 0], 0) := rfl
theorem f161_28 : zF 161 28 = some (.iaload, 1, [], 0) := rfl
theorem f161_29 : zF 161 29 = some (.dup2, 1, [], 0) := rfl
theorem f161_30 : zF 161 30 = some (.iaload, 1, [], 0) := rfl
theorem f161_31 : zF 161 31 = some (.iconst 1, 1, [], 0) := rfl
theorem f161_32 : zF 161 32 = some (.isub, 1, [], 0) := rfl
theorem f161_33 : zF 161 33 = some (.iastore, 1, [], 0) := rfl
theorem f161_34 : zF 161 34 = some (.aload_n 0, 1, [], 0) := rfl
theorem f161_35 : zF 161 35 = some (.dup, 1, [], 0) := rfl
theorem f161_36 : zF 161 36 = some (.getfield 144, 3, [10, 32, 0], 0) := rfl
theorem f161_39 : zF 161 39 = some (.iconst 1, 1, [], 0) := rfl
theorem f161_40 : zF 161 40 = some (.isub, 1, [], 0) := rfl
theorem f161_41 : zF 161 41 = some (.putfield 144, 3, [10, 32, 0], 0) := rfl
theorem f161_44 : zF 161 44 = some (.return_, 1, [], 0) := rfl
theorem f162_0 : zF 162 0 = some (.aload_n 0, 1, [], 0) := rfl
theorem f162_1 : zF 162 1 = some (.getfield 137, 3, [10, 29, 0], 0) := rfl
theorem f162_4 : zF 162 4 = some (.aload_n 0, 1, [], 0) := rfl
theorem f162_5 : zF 162 5 = some (.getfield 78, 3, [10, 25, 2], 0) := rfl
theorem f162_8 : zF 162 8 = some (.aload_n 0, 1, [], 0) := rfl
theorem f162_9 : zF 162 9 = some (.getfield 131, 3, [10, 26, 0], 0) := rfl
theorem f162_12 : zF 162 12 = some (.iaload, 1, [], 0) := rfl
theorem f162_13 : zF 162 13 = some (.if_icmp .le 53, 3, [], 0) := rfl
theorem f162_16 : zF 162 16 = some (.aload_n 0, 1, [], 0) := rfl
theorem f162_17 : zF 162 17 = some (.dup, 1, [], 0) := rfl
theorem f162_18 : zF 162 18 = some (.getfield 137, 3, [10, 29, 0], 0) := rfl
theorem f162_21 : zF 162 21 = some (.iconst 1, 1, [], 0) := rfl
theorem f162_22 : zF 162 22 = some (.isub, 1, [], 0) := rfl
theorem f162_23 : zF 162 23 = some (.putfield 137, 3, [10, 29, 0], 0) := rfl
theorem f162_26 : zF 162 26 = some (.aload_n 0, 1, [], 0) := rfl
theorem f162_27 : zF 162 27 = some (.getfield 84, 3, [10, 28, 2], 0) := rfl
theorem f162_30 : zF 162 30 = some (.aload_n 0, 1, [], 0) := rfl
theorem f162_31 : zF 162 31 = some (.getfield 137, 3, [10, 29, 0], 0) := rfl
theorem f162_34 : zF 162 34 = some (.iaload, 1, [], 0) := rfl
theorem f162_35 : zF 162 35 = some (.ifCond .eq (-35), 3, [], 0) := rfl
theorem f162_38 : zF 162 38 = some (.aload_n 0, 1, [], 0) := rfl
theorem f162_39 : zF 162 39 = some (.iload_n 1, 1, [], 0) := rfl
theorem f162_40 : zF 162 40 = some (.iconst 2, 1, [], 0) := rfl
theorem f162_41 : zF 162 41 = some (.aload_n 0, 1, [], 0) := rfl
theorem f162_42 : zF 162 42 = some (.getfield 81, 3, [10, 27, 2], 0) := rfl
theorem f162_45 : zF 162 45 = some (.aload_n 0, 1, [], 0) := rfl
theorem f162_46 : zF 162 46 = some (.getfield 137, 3, [10, 29, 0], 0) := rfl
theorem f162_49 : zF 162 49 = some (.iaload, 1, [], 0) := rfl
theorem f162_50 : zF 162 50 = some (.aload_n 0, 1, [], 0) := rfl
theorem f162_51 : zF 162 51 = some (.getfield 84, 3, [10, 28, 2], 0) := rfl
theorem f162_54 : zF 162 54 = some (.aload_n 0, 1, [], 0) := rfl
theorem f162_55 : zF 162 55 = some (.getfield 137, 3, [10, 29, 0], 0) := rfl
theorem f162_58 : zF 162 58 = some (.iaload, 1, [], 0) := rfl
theorem f162_59 : zF 162 59 = some (.ineg, 1, [], 0) := rfl
theorem f162_60 : zF 162 60 = some (.invokevirtual 140, 3, [0, 158, 10, 5, 5, 0, 0], 0) := rfl
theorem f162_63 : zF 162 63 = some (.goto (-63), 3, [], 0) := rfl
theorem f162_66 : zF 162 66 = some (.return_, 1, [], 0) := rfl
theorem f163_0 : zF 163 0 = some (.iload_n 2, 1, [], 0) := rfl
theorem f163_1 : zF 163 1 = some (.aload_n 0, 1, [], 0) := rfl
theorem f163_2 : zF 163 2 = some (.getfield 7, 3, [10, 0, 2], 0) := rfl
theorem f163_5 : zF 163 5 = some (.bipush 26, 2, [], 0) := rfl
theorem f163_7 : zF 163 7 = some (.bipush 61, 2, [], 0) := rfl
theorem f163_9 : zF 163 9 = some (.iload_n 1, 1, [], 0) := rfl
theorem f163_10 : zF 163 10 = some (.imul, 1, [], 0) := rfl
theorem f163_11 : zF 163 11 = some (.iadd, 1, [], 0) := rfl
theorem f163_12 : zF 163 12 = some (.iaload, 1, [], 0) := rfl
theorem f163_13 : zF 163 13 = some (.if_icmp .ge 22, 3, [], 0) := rfl
theorem f163_16 : zF 163 16 = some (.aload_n 0, 1, [], 0) := rfl
theorem f163_17 : zF 163 17 = some (.getfield 7, 3, [10, 0, 2], 0) := rfl
theorem f163_20 : zF 163 20 = some (.bipush 26, 2, [], 0) := rfl
theorem f163_22 : zF 163 22 = some (.bipush 61, 2, [], 0) := rfl
theorem f163_24 : zF 163 24 = some (.iload_n 1, 1, [], 0) := rfl
theorem f163_25 : zF 163 25 = some (.imul, 1, [], 0) := rfl
theorem f163_26 : zF 163 26 = some (.iadd, 1, [], 0) := rfl
theorem f163_27 : zF 163 27 = some (.iconst 1, 1, [], 0) := rfl
theorem f163_28 : zF 163 28 = some (.iadd, 1, [], 0) := rfl
theorem f163_29 : zF 163 29 = some (.iload_n 2, 1, [], 0) := rfl
theorem f163_30 : zF 163 30 = some (.iadd, 1, [], 0) := rfl
theorem f163_31 : zF 163 31 = some (.iaload, 1, [], 0) := rfl
theorem f163_32 : zF 163 32 = some (.goto 4, 3, [], 0) := rfl
theorem f163_35 : zF 163 35 = some (.iconst 0, 1, [], 0) := rfl
theorem f163_36 : zF 163 36 = some (.ireturn, 1, [0], 0) := rfl
theorem f164_0 : zF 164 0 = some (.iconst 0, 1, [], 0) := rfl
theorem f164_1 : zF 164 1 = some (.istore_n 3, 1, [], 0) := rfl
theorem f164_2 : zF 164 2 = some (.iload_n 2, 1, [], 0) := rfl
theorem f164_3 : zF 164 3 = some (.istore 4, 2, [], 0) := rfl
theorem f164_5 : zF 164 5 = some (.aload_n 0, 1, [], 0) := rfl
theorem f164_6 : zF 164 6 = some (.iload_n 1, 1, [], 0) := rfl
theorem f164_7 : zF 164 7 = some (.iload 4, 2, [], 0) := rfl
theorem f164_9 : zF 164 9 = some (.invokevirtual 151, 3, [0, 163, 10, 3, 3, 0, 0], 0) := rfl
theorem f164_12 : zF 164 12 = some (.istore 5, 2, [], 0) := rfl
theorem f164_14 : zF 164 14 = some (.iload_n 3, 1, [], 0) := rfl
theorem f164_15 : zF 164 15 = some (.iload 5, 2, [], 0) := rfl
theorem f164_17 : zF 164 17 = some (.bipush 40, 2, [], 0) := rfl
theorem f164_19 : zF 164 19 = some (.if_icmp .eq 17, 3, [], 0) := rfl
theorem f164_22 : zF 164 22 = some (.iload 5, 2, [], 0) := rfl
theorem f164_24 : zF 164 24 = some (.bipush 91, 2, [], 0) := rfl
theorem f164_26 : zF 164 26 = some (.if_icmp .eq 10, 3, [], 0) := rfl
theorem f164_29 : zF 164 29 = some (.iload 5, 2, [], 0) := rfl
theorem f164_31 : zF 164 31 = some (.bipush 123, 2, [], 0) := rfl
theorem f164_33 : zF 164 33 = some (.if_icmp .ne 7, 3, [], 0) := rfl
theorem f164_36 : zF 164 36 = some (.iconst 1, 1, [], 0) := rfl
theorem f164_37 : zF 164 37 = some (.goto 29, 3, [], 0) := rfl
theorem f164_40 : zF 164 40 = some (.iload 5, 2, [], 0) := rfl
theorem f164_42 : zF 164 42 = some (.bipush 41, 2, [], 0) := rfl
theorem f164_44 : zF 164 44 = some (.if_icmp .eq 17, 3, [], 0) := rfl
theorem f164_47 : zF 164 47 = some (.iload 5, 2, [], 0) := rfl
theorem f164_49 : zF 164 49 = some (.bipush 93, 2, [], 0) := rfl
theorem f164_51 : zF 164 51 = some (.if_icmp .eq 10, 3, [], 0) := rfl
theorem f164_54 : zF 164 54 = some (.iload 5, 2, [], 0) := rfl
theorem f164_56 : zF 164 56 = some (.bipush 125, 2, [], 0) := rfl
theorem f164_58 : zF 164 58 = some (.if_icmp .ne 7, 3, [], 0) := rfl
theorem f164_61 : zF 164 61 = some (.iconst (-1), 1, [], 0) := rfl
theorem f164_62 : zF 164 62 = some (.goto 4, 3, [], 0) := rfl
theorem f164_65 : zF 164 65 = some (.iconst 0, 1, [], 0) := rfl
theorem f164_66 : zF 164 66 = some (.iadd, 1, [], 0) := rfl
theorem f164_67 : zF 164 67 = some (.istore_n 3, 1, [], 0) := rfl
theorem f164_68 : zF 164 68 = some (.iinc 4 1, 3, [], 0) := rfl
theorem f164_71 : zF 164 71 = some (.iload_n 3, 1, [], 0) := rfl
theorem f164_72 : zF 164 72 = some (.ifCond .gt (-67), 3, [], 0) := rfl
theorem f164_75 : zF 164 75 = some (.iload 4, 2, [], 0) := rfl
theorem f164_77 : zF 164 77 = some (.iconst 1, 1, [], 0) := rfl
theorem f164_78 : zF 164 78 = some (.isub, 1, [], 0) := rfl
theorem f164_79 : zF 164 79 = some (.ireturn, 1, [0], 0) := rfl
theorem f165_0 : zF 165 0 = some (.iconst 1, 1, [], 0) := rfl
theorem f165_1 : zF 165 1 = some (.istore 4, 2, [], 0) := rfl
theorem f165_3 : zF 165 3 = some (.iload 4, 2, [], 0) := rfl
theorem f165_5 : zF 165 5 = some (.ifCond .eq 99, 3, [], 0) := rfl
theorem f165_8 : zF 165 8 = some (.aload_n 0, 1, [], 0) := rfl
theorem f165_9 : zF 165 9 = some (.getfield 131, 3, [10, 26, 0], 0) := rfl
theorem f165_12 : zF 165 12 = some (.ifCond .le 92, 3, [], 0) := rfl
theorem f165_15 : zF 165 15 = some (.aload_n 0, 1, [], 0) := rfl
theorem f165_16 : zF 165 16 = some (.dup, 1, [], 0) := rfl
theorem f165_17 : zF 165 17 = some (.getfield 131, 3, [10, 26, 0], 0) := rfl
theorem f165_20 : zF 165 20 = some (.iconst 1, 1, [], 0) := rfl
theorem f165_21 : zF 165 21 = some (.isub, 1, [], 0) := rfl
theorem f165_22 : zF 165 22 = some (.putfield 131, 3, [10, 26, 0], 0) := rfl
theorem f165_25 : zF 165 25 = some (.aload_n 0, 1, [], 0) := rfl
theorem f165_26 : zF 165 26 = some (.getfield 69, 3, [10, 22, 2], 0) := rfl
theorem f165_29 : zF 165 29 = some (.aload_n 0, 1, [], 0) := rfl
theorem f165_30 : zF 165 30 = some (.getfield 131, 3, [10, 26, 0], 0) := rfl
theorem f165_33 : zF 165 33 = some (.iaload, 1, [], 0) := rfl
theorem f165_34 : zF 165 34 = some (.ifCond .ne 16, 3, [], 0) := rfl
theorem f165_37 : zF 165 37 = some (.aload_n 0, 1, [], 0) := rfl
theorem f165_38 : zF 165 38 = some (.iload_n 1, 1, [], 0) := rfl
theorem f165_39 : zF 165 39 = some (.invokevirtual 155, 3, [0, 162, 10, 2, 2, 0, 0], 0) := rfl
theorem f165_42 : zF 165 42 = some (.aload_n 0, 1, [], 0) := rfl
theorem f165_43 : zF 165 43 = some (.iload_n 1, 1, [], 0) := rfl
theorem f165_44 : zF 165 44 = some (.invokevirtual 159, 3, [0, 161, 10, 2, 2, 0, 0], 0) := rfl
theorem f165_47 : zF 165 47 = some (.goto (-44), 3, [], 0) := rfl
theorem f165_50 : zF 165 50 = some (.aload_n 0, 1, [], 0) := rfl
theorem f165_51 : zF 165 51 = some (.getfield 69, 3, [10, 22, 2], 0) := rfl
theorem f165_54 : zF 165 54 = some (.aload_n 0, 1, [], 0) := rfl
theorem f165_55 : zF 165 55 = some (.getfield 131, 3, [10, 26, 0], 0) := rfl
theorem f165_58 : zF 165 58 = some (.iaload, 1, [], 0) := rfl
theorem f165_59 : zF 165 59 = some (.iconst 1, 1, [], 0) := rfl
theorem f165_60 : zF 165 60 = some (.if_icmp .ne (-57), 3, [], 0) := rfl
theorem f165_63 : zF 165 63 = some (.aload_n 0, 1, [], 0) := rfl
theorem f165_64 : zF 165 64 = some (.iload_n 1, 1, [], 0) := rfl
theorem f165_65 : zF 165 65 = some (.invokevirtual 155, 3, [0, 162, 10, 2, 2, 0, 0], 0) := rfl
theorem f165_68 : zF 165 68 = some (.aload_n 0, 1, [], 0) := rfl
theorem f165_69 : zF 165 69 = some (.getfield 60, 3, [10, 18, 2], 0) := rfl
theorem f165_72 : zF 165 72 = some (.iload_n 1, 1, [], 0) := rfl
theorem f165_73 : zF 165 73 = some (.dup2, 1, [], 0) := rfl
theorem f165_74 : zF 165 74 = some (.iaload, 1, [], 0) := rfl
theorem f165_75 : zF 165 75 = some (.iconst 1, 1, [], 0) := rfl
theorem f165_76 : zF 165 76 = some (.iadd, 1, [], 0) := rfl
theorem f165_77 : zF 165 77 = some (.iastore, 1, [], 0) := rfl
theorem f165_78 : zF 165 78 = some (.aload_n 0, 1, [], 0) := rfl
theorem f165_79 : zF 165 79 = some (.aload_n 0, 1, [], 0) := rfl
theorem f165_80 : zF 165 80 = some (.iload_n 1, 1, [], 0) := rfl
theorem f165_81 : zF 165 81 = some (.aload_n 0, 1, [], 0) := rfl
theorem f165_82 : zF 165 82 = some (.getfield 72, 3, [10, 23, 2], 0) := rfl
theorem f165_85 : zF 165 85 = some (.aload_n 0, 1, [], 0) := rfl
theorem f165_86 : zF 165 86 = some (.getfield 131, 3, [10, 26, 0], 0) := rfl
theorem f165_89 : zF 165 89 = some (.iaload, 1, [], 0) := rfl
theorem f165_90 : zF 165 90 = some (.invokevirtual 162, 3, [0, 164, 10, 3, 6, 0, 0], 0) := rfl
theorem f165_93 : zF 165 93 = some (.iconst 1, 1, [], 0) := rfl
theorem f165_94 : zF 165 94 = some (.iadd, 1, [], 0) := rfl
theorem f165_95 : zF 165 95 = some (.putfield 134, 3, [10, 31, 0], 0) := rfl
theorem f165_98 : zF 165 98 = some (.iconst 0, 1, [], 0) := rfl
theorem f165_99 : zF 165 99 = some (.istore 4, 2, [], 0) := rfl
theorem f165_101 : zF 165 101 = some (.goto (-98), 3, [], 0) := rfl
theorem f165_104 : zF 165 104 = some (.iload 4, 2, [], 0) := rfl
theorem f165_106 : zF 165 106 = some (.ifCond .eq 17, 3, [], 0) := rfl
theorem f165_109 : zF 165 109 = some (.aload_n 0, 1, [], 0) := rfl
theorem f165_110 : zF 165 110 = some (.getfield 54, 3, [10, 16, 2], 0) := rfl
theorem f165_113 : zF 165 113 = some (.iload_n 1, 1, [], 0) := rfl
theorem f165_114 : zF 165 114 = some (.iload_n 2, 1, [], 0) := rfl
theorem f165_115 : zF 165 115 = some (.iastore, 1, [], 0) := rfl
theorem f165_116 : zF 165 116 = some (.aload_n 0, 1, [], 0) := rfl
theorem f165_117 : zF 165 117 = some (.getfield 57, 3, [10, 17, 2], 0) := rfl
theorem f165_120 : zF 165 120 = some (.iload_n 1, 1, [], 0) := rfl
theorem f165_121 : zF 165 121 = some (.iload_n 3, 1, [], 0) := rfl
theorem f165_122 : zF 165 122 = some (.iastore, 1, [], 0) := by decide +kernel
theorem f165_123 : zF 165 123 = some (.return_, 1, [], 0) := by decide +kernel
theorem f166_0 : zF 166 0 = some (.aload_n 0, 1, [], 0) := rfl
theorem f166_1 : zF 166 1 = some (.iload_n 1, 1, [], 0) := rfl
theorem f166_2 : zF 166 2 = some (.aload_n 0, 1, [], 0) := rfl
theorem f166_3 : zF 166 3 = some (.getfield 134, 3, [10, 31, 0], 0) := rfl
theorem f166_6 : zF 166 6 = some (.iconst 1, 1, [], 0) := rfl
theorem f166_7 : zF 166 7 = some (.iadd, 1, [], 0) := rfl
theorem f166_8 : zF 166 8 = some (.invokevirtual 151, 3, [0, 163, 10, 3, 3, 0, 0], 0) := rfl
theorem f166_11 : zF 166 11 = some (.istore_n 3, 1, [], 0) := rfl
theorem f166_12 : zF 166 12 = some (.iload_n 3, 1, [], 0) := rfl
theorem f166_13 : zF 166 13 = some (.bipush 40, 2, [], 0) := rfl
theorem f166_15 : zF 166 15 = some (.if_icmp .ne 55, 3, [], 0) := rfl
theorem f166_18 : zF 166 18 = some (.aload_n 0, 1, [], 0) := rfl
theorem f166_19 : zF 166 19 = some (.getfield 7, 3, [10, 0, 2], 0) := rfl
theorem f166_22 : zF 166 22 = some (.iconst 0, 1, [], 0) := rfl
theorem f166_23 : zF 166 23 = some (.iaload, 1, [], 0) := rfl
theorem f166_24 : zF 166 24 = some (.iload_n 2, 1, [], 0) := rfl
theorem f166_25 : zF 166 25 = some (.invokestatic 165, 3, [1, 152, 0, 2, 2, 0, 0], 0) := rfl
theorem f166_28 : zF 166 28 = some (.ifCond .eq 13, 3, [], 0) := rfl
theorem f166_31 : zF 166 31 = some (.aload_n 0, 1, [], 0) := rfl
theorem f166_32 : zF 166 32 = some (.iload_n 1, 1, [], 0) := rfl
theorem f166_33 : zF 166 33 = some (.iconst 3, 1, [], 0) := rfl
theorem f166_34 : zF 166 34 = some (.iload_n 2, 1, [], 0) := rfl
theorem f166_35 : zF 166 35 = some (.invokevirtual 169, 3, [0, 165, 10, 4, 5, 0, 0], 0) := rfl
theorem f166_38 : zF 166 38 = some (.goto 140, 3, [], 0) := rfl
theorem f166_41 : zF 166 41 = some (.aload_n 0, 1, [], 0) := rfl
theorem f166_42 : zF 166 42 = some (.dup, 1, [], 0) := rfl
theorem f166_43 : zF 166 43 = some (.getfield 134, 3, [10, 31, 0], 0) := rfl
theorem f166_46 : zF 166 46 = some (.iconst 1, 1, [], 0) := rfl
theorem f166_47 : zF 166 47 = some (.iadd, 1, [], 0) := rfl
theorem f166_48 : zF 166 48 = some (.putfield 134, 3, [10, 31, 0], 0) := rfl
theorem f166_51 : zF 166 51 = some (.aload_n 0, 1, [], 0) := rfl
theorem f166_52 : zF 166 52 = some (.iload_n 1, 1, [], 0) := rfl
theorem f166_53 : zF 166 53 = some (.iload_n 2, 1, [], 0) := rfl
theorem f166_54 : zF 166 54 = some (.invokevirtual 172, 3, [0, 160, 10, 3, 3, 0, 0], 0) := rfl
theorem f166_57 : zF 166 57 = some (.aload_n 0, 1, [], 0) := rfl
theorem f166_58 : zF 166 58 = some (.dup, 1, [], 0) := rfl
theorem f166_59 : zF 166 59 = some (.getfield 134, 3, [10, 31, 0], 0) := rfl
theorem f166_62 : zF 166 62 = some (.iconst 1, 1, [], 0) := rfl
theorem f166_63 : zF 166 63 = some (.iadd, 1, [], 0) := rfl
theorem f166_64 : zF 166 64 = some (.putfield 134, 3, [10, 31, 0], 0) := rfl
theorem f166_67 : zF 166 67 = some (.goto 111, 3, [], 0) := rfl
theorem f166_70 : zF 166 70 = some (.aload_n 0, 1, [], 0) := rfl
theorem f166_71 : zF 166 71 = some (.getfield 87, 3, [10, 30, 2], 0) := rfl
theorem f166_74 : zF 166 74 = some (.iload_n 2, 1, [], 0) := rfl
theorem f166_75 : zF 166 75 = some (.iaload, 1, [], 0) := rfl
theorem f166_76 : zF 166 76 = some (.ifCond .ne 13, 3, [], 0) := rfl
theorem f166_79 : zF 166 79 = some (.aload_n 0, 1, [], 0) := rfl
theorem f166_80 : zF 166 80 = some (.iload_n 1, 1, [], 0) := rfl
theorem f166_81 : zF 166 81 = some (.iconst 1, 1, [], 0) := rfl
theorem f166_82 : zF 166 82 = some (.iload_n 2, 1, [], 0) := rfl
theorem f166_83 : zF 166 83 = some (.invokevirtual 169, 3, [0, 165, 10, 4, 5, 0, 0], 0) := rfl
theorem f166_86 : zF 166 86 = some (.goto 92, 3, [], 0) := rfl
theorem f166_89 : zF 166 89 = some (.aload_n 0, 1, [], 0) := rfl
theorem f166_90 : zF 166 90 = some (.iload_n 1, 1, [], 0) := rfl
theorem f166_91 : zF 166 91 = some (.aload_n 0, 1, [], 0) := rfl
theorem f166_92 : zF 166 92 = some (.getfield 134, 3, [10, 31, 0], 0) := rfl
theorem f166_95 : zF 166 95 = some (.iconst 2, 1, [], 0) := rfl
theorem f166_96 : zF 166 96 = some (.iadd, 1, [], 0) := rfl
theorem f166_97 : zF 166 97 = some (.invokevirtual 151, 3, [0, 163, 10, 3, 3, 0, 0], 0) := rfl
theorem f166_100 : zF 166 100 = some (.bipush 48, 2, [], 0) := rfl
theorem f166_102 : zF 166 102 = some (.isub, 1, [], 0) := rfl
theorem f166_103 : zF 166 103 = some (.istore 4, 2, [], 0) := rfl
theorem f166_105 : zF 166 105 = some (.iload_n 3, 1, [], 0) := rfl
theorem f166_106 : zF 166 106 = some (.bipush 43, 2, [], 0) := rfl
theorem f166_108 : zF 166 108 = some (.if_icmp .ne 8, 3, [], 0) := rfl
theorem f166_111 : zF 166 111 = some (.iload 4, 2, [], 0) := rfl
theorem f166_113 : zF 166 113 = some (.goto 6, 3, [], 0) := rfl
theorem f166_116 : zF 166 116 = some (.iload 4, 2, [], 0) := rfl
theorem f166_118 : zF 166 118 = some (.ineg, 1, [], 0) := rfl
theorem f166_119 : zF 166 119 = some (.istore 4, 2, [], 0) := rfl
theorem f166_121 : zF 166 121 = some (.aload_n 0, 1, [], 0) := by decide +kernel
theorem f166_122 : zF 166 122 = some (.iload_n 1, 1, [], 0) := by decide +kernel
theorem f166_123 : zF 166 123 = some (.iconst 2, 1, [], 0) := by decide +kernel
theorem f166_124 : zF 166 124 = some (.iload_n 2, 1, [], 0) := by decide +kernel
theorem f166_125 : zF 166 125 = some (.iload 4, 2, [], 0) := by decide +kernel
theorem f166_127 : zF 166 127 = some (.invokevirtual 140, 3, [0, 158, 10, 5, 5, 0, 0], 0) := by decide +kernel
theorem f166_130 : zF 166 130 = some (.aload_n 0, 1, [], 0) := by decide +kernel
theorem f166_131 : zF 166 131 = some (.getfield 127, 3, [10, 21, 3], 0) := by decide +kernel
theorem f166_134 : zF 166 134 = some (.ifCond .ne 34, 3, [], 0) := by decide +kernel
theorem f166_137 : zF 166 137 = some (.aload_n 0, 1, [], 0) := by decide +kernel
theorem f166_138 : zF 166 138 = some (.getfield 81, 3, [10, 27, 2], 0) := by decide +kernel
theorem f166_141 : zF 166 141 = some (.aload_n 0, 1, [], 0) := by decide +kernel
theorem f166_142 : zF 166 142 = some (.getfield 137, 3, [10, 29, 0], 0) := by decide +kernel
theorem f166_145 : zF 166 145 = some (.iload_n 2, 1, [], 0) := by decide +kernel
theorem f166_146 : zF 166 146 = some (.iastore, 1, [], 0) := by decide +kernel
theorem f166_147 : zF 166 147 = some (.aload_n 0, 1, [], 0) := by decide +kernel
theorem f166_148 : zF 166 148 = some (.getfield 84, 3, [10, 28, 2], 0) := by decide +kernel
theorem f166_151 : zF 166 151 = some (.aload_n 0, 1, [], 0) := by decide +kernel
theorem f166_152 : zF 166 152 = some (.getfield 137, 3, [10, 29, 0], 0) := by decide +kernel
theorem f166_155 : zF 166 155 = some (.iload 4, 2, [], 0) := by decide +kernel
theorem f166_157 : zF 166 157 = some (.iastore, 1, [], 0) := by decide +kernel
theorem f166_158 : zF 166 158 = some (.aload_n 0, 1, [], 0) := by decide +kernel
theorem f166_159 : zF 166 159 = some (.dup, 1, [], 0) := by decide +kernel
theorem f166_160 : zF 166 160 = some (.getfield 137, 3, [10, 29, 0], 0) := by decide +kernel
theorem f166_163 : zF 166 163 = some (.iconst 1, 1, [], 0) := by decide +kernel
theorem f166_164 : zF 166 164 = some (.iadd, 1, [], 0) := by decide +kernel
theorem f166_165 : zF 166 165 = some (.putfield 137, 3, [10, 29, 0], 0) := by decide +kernel
theorem f166_168 : zF 166 168 = some (.aload_n 0, 1, [], 0) := by decide +kernel
theorem f166_169 : zF 166 169 = some (.dup, 1, [], 0) := by decide +kernel
theorem f166_170 : zF 166 170 = some (.getfield 134, 3, [10, 31, 0], 0) := by decide +kernel
theorem f166_173 : zF 166 173 = some (.iconst 3, 1, [], 0) := by decide +kernel
theorem f166_174 : zF 166 174 = some (.iadd, 1, [], 0) := by decide +kernel
theorem f166_175 : zF 166 175 = some (.putfield 134, 3, [10, 31, 0], 0) := by decide +kernel
theorem f166_178 : zF 166 178 = some (.return_, 1, [], 0) := by decide +kernel
theorem f167_0 : zF 167 0 = some (.aload_n 0, 1, [], 0) := rfl
theorem f167_1 : zF 167 1 = some (.dup, 1, [], 0) := rfl
theorem f167_2 : zF 167 2 = some (.getfield 131, 3, [10, 26, 0], 0) := rfl
theorem f167_5 : zF 167 5 = some (.iconst 1, 1, [], 0) := rfl
theorem f167_6 : zF 167 6 = some (.isub, 1, [], 0) := rfl
theorem f167_7 : zF 167 7 = some (.putfield 131, 3, [10, 26, 0], 0) := rfl
theorem f167_10 : zF 167 10 = some (.iload_n 2, 1, [], 0) := rfl
theorem f167_11 : zF 167 11 = some (.bipush 41, 2, [], 0) := rfl
theorem f167_13 : zF 167 13 = some (.if_icmp .ne 52, 3, [], 0) := rfl
theorem f167_16 : zF 167 16 = some (.aload_n 0, 1, [], 0) := rfl
theorem f167_17 : zF 167 17 = some (.getfield 78, 3, [10, 25, 2], 0) := rfl
theorem f167_20 : zF 167 20 = some (.aload_n 0, 1, [], 0) := rfl
theorem f167_21 : zF 167 21 = some (.getfield 131, 3, [10, 26, 0], 0) := rfl
theorem f167_24 : zF 167 24 = some (.iaload, 1, [], 0) := rfl
theorem f167_25 : zF 167 25 = some (.istore_n 3, 1, [], 0) := rfl
theorem f167_26 : zF 167 26 = some (.iload_n 3, 1, [], 0) := rfl
theorem f167_27 : zF 167 27 = some (.aload_n 0, 1, [], 0) := rfl
theorem f167_28 : zF 167 28 = some (.getfield 137, 3, [10, 29, 0], 0) := rfl
theorem f167_31 : zF 167 31 = some (.if_icmp .ge 16, 3, [], 0) := rfl
theorem f167_34 : zF 167 34 = some (.aload_n 0, 1, [], 0) := rfl
theorem f167_35 : zF 167 35 = some (.getfield 84, 3, [10, 28, 2], 0) := rfl
theorem f167_38 : zF 167 38 = some (.iload_n 3, 1, [], 0) := rfl
theorem f167_39 : zF 167 39 = some (.iconst 0, 1, [], 0) := rfl
theorem f167_40 : zF 167 40 = some (.iastore, 1, [], 0) := rfl
theorem f167_41 : zF 167 41 = some (.iinc 3 1, 3, [], 0) := rfl
theorem f167_44 : zF 167 44 = some (.goto (-18), 3, [], 0) := rfl
theorem f167_47 : zF 167 47 = some (.aload_n 0, 1, [], 0) := rfl
theorem f167_48 : zF 167 48 = some (.iload_n 1, 1, [], 0) := rfl
theorem f167_49 : zF 167 49 = some (.invokevirtual 159, 3, [0, 161, 10, 2, 2, 0, 0], 0) := rfl
theorem f167_52 : zF 167 52 = some (.aload_n 0, 1, [], 0) := rfl
theorem f167_53 : zF 167 53 = some (.dup, 1, [], 0) := rfl
theorem f167_54 : zF 167 54 = some (.getfield 134, 3, [10, 31, 0], 0) := rfl
theorem f167_57 : zF 167 57 = some (.iconst 1, 1, [], 0) := rfl
theorem f167_58 : zF 167 58 = some (.iadd, 1, [], 0) := rfl
theorem f167_59 : zF 167 59 = some (.putfield 134, 3, [10, 31, 0], 0) := rfl
theorem f167_62 : zF 167 62 = some (.goto 85, 3, [], 0) := rfl
theorem f167_65 : zF 167 65 = some (.iload_n 2, 1, [], 0) := rfl
theorem f167_66 : zF 167 66 = some (.bipush 93, 2, [], 0) := rfl
theorem f167_68 : zF 167 68 = some (.if_icmp .ne 16, 3, [], 0) := rfl
theorem f167_71 : zF 167 71 = some (.aload_n 0, 1, [], 0) := rfl
theorem f167_72 : zF 167 72 = some (.dup, 1, [], 0) := rfl
theorem f167_73 : zF 167 73 = some (.getfield 134, 3, [10, 31, 0], 0) := rfl
theorem f167_76 : zF 167 76 = some (.iconst 1, 1, [], 0) := rfl
theorem f167_77 : zF 167 77 = some (.iadd, 1, [], 0) := rfl
theorem f167_78 : zF 167 78 = some (.putfield 134, 3, [10, 31, 0], 0) := rfl
theorem f167_81 : zF 167 81 = some (.goto 66, 3, [], 0) := rfl
theorem f167_84 : zF 167 84 = some (.aload_n 0, 1, [], 0) := rfl
theorem f167_85 : zF 167 85 = some (.getfield 75, 3, [10, 24, 2], 0) := rfl
theorem f167_88 : zF 167 88 = some (.aload_n 0, 1, [], 0) := rfl
theorem f167_89 : zF 167 89 = some (.getfield 131, 3, [10, 26, 0], 0) := rfl
theorem f167_92 : zF 167 92 = some (.dup2, 1, [], 0) := rfl
theorem f167_93 : zF 167 93 = some (.iaload, 1, [], 0) := rfl
theorem f167_94 : zF 167 94 = some (.iconst 1, 1, [], 0) := rfl
theorem f167_95 : zF 167 95 = some (.isub, 1, [], 0) := rfl
theorem f167_96 : zF 167 96 = some (.iastore, 1, [], 0) := rfl
theorem f167_97 : zF 167 97 = some (.aload_n 0, 1, [], 0) := rfl
theorem f167_98 : zF 167 98 = some (.getfield 75, 3, [10, 24, 2], 0) := rfl
theorem f167_101 : zF 167 101 = some (.aload_n 0, 1, [], 0) := rfl
theorem f167_102 : zF 167 102 = some (.getfield 131, 3, [10, 26, 0], 0) := rfl
theorem f167_105 : zF 167 105 = some (.iaload, 1, [], 0) := rfl
theorem f167_106 : zF 167 106 = some (.ifCond .le 31, 3, [], 0) := rfl
theorem f167_109 : zF 167 109 = some (.aload_n 0, 1, [], 0) := rfl
theorem f167_110 : zF 167 110 = some (.aload_n 0, 1, [], 0) := rfl
theorem f167_111 : zF 167 111 = some (.getfield 72, 3, [10, 23, 2], 0) := rfl
theorem f167_114 : zF 167 114 = some (.aload_n 0, 1, [], 0) := rfl
theorem f167_115 : zF 167 115 = some (.getfield 131, 3, [10, 26, 0], 0) := rfl
theorem f167_118 : zF 167 118 = some (.iaload, 1, [], 0) := rfl
theorem f167_119 : zF 167 119 = some (.iconst 1, 1, [], 0) := rfl
theorem f167_120 : zF 167 120 = some (.iadd, 1, [], 0) := rfl
theorem f167_121 : zF 167 121 = some (.putfield 134, 3, [10, 31, 0], 0) := rfl
theorem f167_124 : zF 167 124 = some (.aload_n 0, 1, [], 0) := by decide +kernel
theorem f167_125 : zF 167 125 = some (.dup, 1, [], 0) := by decide +kernel
theorem f167_126 : zF 167 126 = some (.getfield 131, 3, [10, 26, 0], 0) := by decide +kernel
theorem f167_129 : zF 167 129 = some (.iconst 1, 1, [], 0) := by decide +kernel
theorem f167_130 : zF 167 130 = some (.iadd, 1, [], 0) := by decide +kernel
theorem f167_131 : zF 167 131 = some (.putfield 131, 3, [10, 26, 0], 0) := by decide +kernel
theorem f167_134 : zF 167 134 = some (.goto 13, 3, [], 0) := by decide +kernel
theorem f167_137 : zF 167 137 = some (.aload_n 0, 1, [], 0) := by decide +kernel
theorem f167_138 : zF 167 138 = some (.dup, 1, [], 0) := by decide +kernel
theorem f167_139 : zF 167 139 = some (.getfield 134, 3, [10, 31, 0], 0) := by decide +kernel
theorem f167_142 : zF 167 142 = some (.iconst 1, 1, [], 0) := by decide +kernel
theorem f167_143 : zF 167 143 = some (.iadd, 1, [], 0) := by decide +kernel
theorem f167_144 : zF 167 144 = some (.putfield 134, 3, [10, 31, 0], 0) := by decide +kernel
theorem f167_147 : zF 167 147 = some (.return_, 1, [], 0) := by decide +kernel
theorem f168_0 : zF 168 0 = some (.aload_n 0, 1, [], 0) := rfl
theorem f168_1 : zF 168 1 = some (.getfield 51, 3, [10, 15, 2], 0) := rfl
theorem f168_4 : zF 168 4 = some (.iload_n 1, 1, [], 0) := rfl
theorem f168_5 : zF 168 5 = some (.iconst 0, 1, [], 0) := rfl
theorem f168_6 : zF 168 6 = some (.iastore, 1, [], 0) := rfl
theorem f168_7 : zF 168 7 = some (.aload_n 0, 1, [], 0) := rfl
theorem f168_8 : zF 168 8 = some (.getfield 54, 3, [10, 16, 2], 0) := rfl
theorem f168_11 : zF 168 11 = some (.iload_n 1, 1, [], 0) := rfl
theorem f168_12 : zF 168 12 = some (.iconst 0, 1, [], 0) := rfl
theorem f168_13 : zF 168 13 = some (.iastore, 1, [], 0) := rfl
theorem f168_14 : zF 168 14 = some (.aload_n 0, 1, [], 0) := rfl
theorem f168_15 : zF 168 15 = some (.getfield 57, 3, [10, 17, 2], 0) := rfl
theorem f168_18 : zF 168 18 = some (.iload_n 1, 1, [], 0) := rfl
theorem f168_19 : zF 168 19 = some (.bipush (-4), 2, [], 0) := rfl
theorem f168_21 : zF 168 21 = some (.iastore, 1, [], 0) := rfl
theorem f168_22 : zF 168 22 = some (.aload_n 0, 1, [], 0) := rfl
theorem f168_23 : zF 168 23 = some (.getfield 60, 3, [10, 18, 2], 0) := rfl
theorem f168_26 : zF 168 26 = some (.iload_n 1, 1, [], 0) := rfl
theorem f168_27 : zF 168 27 = some (.iconst 0, 1, [], 0) := rfl
theorem f168_28 : zF 168 28 = some (.iastore, 1, [], 0) := rfl
theorem f168_29 : zF 168 29 = some (.aload_n 0, 1, [], 0) := rfl
theorem f168_30 : zF 168 30 = some (.getfield 63, 3, [10, 19, 2], 0) := rfl
theorem f168_33 : zF 168 33 = some (.iload_n 1, 1, [], 0) := rfl
theorem f168_34 : zF 168 34 = some (.iconst 0, 1, [], 0) := rfl
theorem f168_35 : zF 168 35 = some (.iastore, 1, [], 0) := rfl
theorem f168_36 : zF 168 36 = some (.aload_n 0, 1, [], 0) := rfl
theorem f168_37 : zF 168 37 = some (.getfield 66, 3, [10, 20, 2], 0) := rfl
theorem f168_40 : zF 168 40 = some (.iload_n 1, 1, [], 0) := rfl
theorem f168_41 : zF 168 41 = some (.iconst 0, 1, [], 0) := rfl
theorem f168_42 : zF 168 42 = some (.iastore, 1, [], 0) := rfl
theorem f168_43 : zF 168 43 = some (.aload_n 0, 1, [], 0) := rfl
theorem f168_44 : zF 168 44 = some (.iconst 0, 1, [], 0) := rfl
theorem f168_45 : zF 168 45 = some (.putfield 131, 3, [10, 26, 0], 0) := rfl
theorem f168_48 : zF 168 48 = some (.aload_n 0, 1, [], 0) := rfl
theorem f168_49 : zF 168 49 = some (.iconst 0, 1, [], 0) := rfl
theorem f168_50 : zF 168 50 = some (.putfield 137, 3, [10, 29, 0], 0) := rfl
theorem f168_53 : zF 168 53 = some (.aload_n 0, 1, [], 0) := rfl
theorem f168_54 : zF 168 54 = some (.iconst 0, 1, [], 0) := rfl
theorem f168_55 : zF 168 55 = some (.putfield 144, 3, [10, 32, 0], 0) := rfl
theorem f168_58 : zF 168 58 = some (.aload_n 0, 1, [], 0) := rfl
theorem f168_59 : zF 168 59 = some (.iconst 0, 1, [], 0) := rfl
theorem f168_60 : zF 168 60 = some (.putfield 134, 3, [10, 31, 0], 0) := rfl
theorem f168_63 : zF 168 63 = some (.iconst 0, 1, [], 0) := rfl
theorem f168_64 : zF 168 64 = some (.istore_n 2, 1, [], 0) := rfl
theorem f168_65 : zF 168 65 = some (.iload_n 2, 1, [], 0) := rfl
theorem f168_66 : zF 168 66 = some (.bipush 6, 2, [], 0) := rfl
theorem f168_68 : zF 168 68 = some (.if_icmp .ge 16, 3, [], 0) := rfl
theorem f168_71 : zF 168 71 = some (.aload_n 0, 1, [], 0) := rfl
theorem f168_72 : zF 168 72 = some (.getfield 87, 3, [10, 30, 2], 0) := rfl
theorem f168_75 : zF 168 75 = some (.iload_n 2, 1, [], 0) := rfl
theorem f168_76 : zF 168 76 = some (.iconst 0, 1, [], 0) := rfl
theorem f168_77 : zF 168 77 = some (.iastore, 1, [], 0) := rfl
theorem f168_78 : zF 168 78 = some (.iinc 2 1, 3, [], 0) := rfl
theorem f168_81 : zF 168 81 = some (.goto (-16), 3, [], 0) := rfl
theorem f168_84 : zF 168 84 = some (.aload_n 0, 1, [], 0) := rfl
theorem f168_85 : zF 168 85 = some (.getfield 127, 3, [10, 21, 3], 0) := rfl
theorem f168_88 : zF 168 88 = some (.ifCond .ne 157, 3, [], 0) := rfl
theorem f168_91 : zF 168 91 = some (.aload_n 0, 1, [], 0) := rfl
theorem f168_92 : zF 168 92 = some (.getfield 54, 3, [10, 16, 2], 0) := rfl
theorem f168_95 : zF 168 95 = some (.iload_n 1, 1, [], 0) := rfl
theorem f168_96 : zF 168 96 = some (.iaload, 1, [], 0) := rfl
theorem f168_97 : zF 168 97 = some (.ifCond .ne 148, 3, [], 0) := rfl
theorem f168_100 : zF 168 100 = some (.aload_n 0, 1, [], 0) := rfl
theorem f168_101 : zF 168 101 = some (.iload_n 1, 1, [], 0) := rfl
theorem f168_102 : zF 168 102 = some (.aload_n 0, 1, [], 0) := rfl
theorem f168_103 : zF 168 103 = some (.getfield 134, 3, [10, 31, 0], 0) := rfl
theorem f168_106 : zF 168 106 = some (.invokevirtual 151, 3, [0, 163, 10, 3, 3, 0, 0], 0) := rfl
theorem f168_109 : zF 168 109 = some (.ifCond .eq 136, 3, [], 0) := rfl
theorem f168_112 : zF 168 112 = some (.aload_n 0, 1, [], 0) := rfl
theorem f168_113 : zF 168 113 = some (.iload_n 1, 1, [], 0) := rfl
theorem f168_114 : zF 168 114 = some (.aload_n 0, 1, [], 0) := by decide +kernel
theorem f168_115 : zF 168 115 = some (.getfield 134, 3, [10, 31, 0], 0) := by decide +kernel
theorem f168_118 : zF 168 118 = some (.invokevirtual 151, 3, [0, 163, 10, 3, 3, 0, 0], 0) := by decide +kernel
theorem f168_121 : zF 168 121 = some (.istore_n 2, 1, [], 0) := by decide +kernel
theorem f168_122 : zF 168 122 = some (.iload_n 2, 1, [], 0) := by decide +kernel
theorem f168_123 : zF 168 123 = some (.i2l, 1, [], 0) := by decide +kernel
theorem f168_124 : zF 168 124 = some (.ldc2_w 175, 3, [], 97) := by decide +kernel
theorem f168_127 : zF 168 127 = some (.ldc2_w 177, 3, [], 102) := by decide +kernel
theorem f168_130 : zF 168 130 = some (.invokestatic 121, 3, [1, 151, 0, 3, 6, 0, 0], 0) := by decide +kernel
theorem f168_133 : zF 168 133 = some (.ifCond .eq 15, 3, [], 0) := by decide +kernel
theorem f168_136 : zF 168 136 = some (.aload_n 0, 1, [], 0) := by decide +kernel
theorem f168_137 : zF 168 137 = some (.iload_n 1, 1, [], 0) := by decide +kernel
theorem f168_138 : zF 168 138 = some (.iload_n 2, 1, [], 0) := by decide +kernel
theorem f168_139 : zF 168 139 = some (.bipush 97, 2, [], 0) := by decide +kernel
theorem f168_141 : zF 168 141 = some (.isub, 1, [], 0) := by decide +kernel
theorem f168_142 : zF 168 142 = some (.invokevirtual 179, 3, [0, 166, 10, 3, 5, 0, 0], 0) := by decide +kernel
theorem f168_145 : zF 168 145 = some (.goto 97, 3, [], 0) := by decide +kernel
theorem f168_148 : zF 168 148 = some (.iload_n 2, 1, [], 0) := by decide +kernel
theorem f168_149 : zF 168 149 = some (.bipush 33, 2, [], 0) := by decide +kernel
theorem f168_151 : zF 168 151 = some (.if_icmp .ne 14, 3, [], 0) := by decide +kernel
theorem f168_154 : zF 168 154 = some (.aload_n 0, 1, [], 0) := by decide +kernel
theorem f168_155 : zF 168 155 = some (.iload_n 1, 1, [], 0) := by decide +kernel
theorem f168_156 : zF 168 156 = some (.iconst 2, 1, [], 0) := by decide +kernel
theorem f168_157 : zF 168 157 = some (.bipush (-4), 2, [], 0) := by decide +kernel
theorem f168_159 : zF 168 159 = some (.invokevirtual 169, 3, [0, 165, 10, 4, 5, 0, 0], 0) := by decide +kernel
theorem f168_162 : zF 168 162 = some (.goto 80, 3, [], 0) := by decide +kernel
theorem f168_165 : zF 168 165 = some (.iload_n 2, 1, [], 0) := by decide +kernel
theorem f168_166 : zF 168 166 = some (.bipush 91, 2, [], 0) := by decide +kernel
theorem f168_168 : zF 168 168 = some (.if_icmp .ne 22, 3, [], 0) := by decide +kernel
theorem f168_171 : zF 168 171 = some (.aload_n 0, 1, [], 0) := by decide +kernel
theorem f168_172 : zF 168 172 = some (.iconst 1, 1, [], 0) := by decide +kernel
theorem f168_173 : zF 168 173 = some (.iconst 0, 1, [], 0) := by decide +kernel
theorem f168_174 : zF 168 174 = some (.invokevirtual 147, 3, [0, 159, 10, 3, 3, 0, 0], 0) := by decide +kernel
theorem f168_177 : zF 168 177 = some (.aload_n 0, 1, [], 0) := by decide +kernel
theorem f168_178 : zF 168 178 = some (.dup, 1, [], 0) := by decide +kernel
theorem f168_179 : zF 168 179 = some (.getfield 134, 3, [10, 31, 0], 0) := by decide +kernel
theorem f168_182 : zF 168 182 = some (.iconst 1, 1, [], 0) := by decide +kernel
theorem f168_183 : zF 168 183 = some (.iadd, 1, [], 0) := by decide +kernel
theorem f168_184 : zF 168 184 = some (.putfield 134, 3, [10, 31, 0], 0) := by decide +kernel
theorem f168_187 : zF 168 187 = some (.goto 55, 3, [], 0) := by decide +kernel
theorem f168_190 : zF 168 190 = some (.iload_n 2, 1, [], 0) := by decide +kernel
theorem f168_191 : zF 168 191 = some (.i2l, 1, [], 0) := by decide +kernel
theorem f168_192 : zF 168 192 = some (.ldc2_w 182, 3, [], 50) := by decide +kernel
theorem f168_195 : zF 168 195 = some (.ldc2_w 184, 3, [], 53) := by decide +kernel
theorem f168_198 : zF 168 198 = some (.invokestatic 121, 3, [1, 151, 0, 3, 6, 0, 0], 0) := by decide +kernel
theorem f168_201 : zF 168 201 = some (.ifCond .eq 35, 3, [], 0) := by decide +kernel
theorem f168_204 : zF 168 204 = some (.aload_n 0, 1, [], 0) := by decide +kernel
theorem f168_205 : zF 168 205 = some (.dup, 1, [], 0) := by decide +kernel
theorem f168_206 : zF 168 206 = some (.getfield 134, 3, [10, 31, 0], 0) := by decide +kernel
theorem f168_209 : zF 168 209 = some (.iconst 1, 1, [], 0) := by decide +kernel
theorem f168_210 : zF 168 210 = some (.iadd, 1, [], 0) := by decide +kernel
theorem f168_211 : zF 168 211 = some (.putfield 134, 3, [10, 31, 0], 0) := by decide +kernel
theorem f168_214 : zF 168 214 = some (.aload_n 0, 1, [], 0) := by decide +kernel
theorem f168_215 : zF 168 215 = some (.iconst 2, 1, [], 0) := by decide +kernel
theorem f168_216 : zF 168 216 = some (.iload_n 2, 1, [], 0) := by decide +kernel
theorem f168_217 : zF 168 217 = some (.bipush 48, 2, [], 0) := by decide +kernel
theorem f168_219 : zF 168 219 = some (.isub, 1, [], 0) := by decide +kernel
theorem f168_220 : zF 168 220 = some (.invokevirtual 147, 3, [0, 159, 10, 3, 3, 0, 0], 0) := by decide +kernel
theorem f168_223 : zF 168 223 = some (.aload_n 0, 1, [], 0) := by decide +kernel
theorem f168_224 : zF 168 224 = some (.dup, 1, [], 0) := by decide +kernel
theorem f168_225 : zF 168 225 = some (.getfield 134, 3, [10, 31, 0], 0) := by decide +kernel
theorem f168_228 : zF 168 228 = some (.iconst 1, 1, [], 0) := by decide +kernel
theorem f168_229 : zF 168 229 = some (.iadd, 1, [], 0) := by decide +kernel
theorem f168_230 : zF 168 230 = some (.putfield 134, 3, [10, 31, 0], 0) := by decide +kernel
theorem f168_233 : zF 168 233 = some (.goto 9, 3, [], 0) := by decide +kernel
theorem f168_236 : zF 168 236 = some (.aload_n 0, 1, [], 0) := by decide +kernel
theorem f168_237 : zF 168 237 = some (.iload_n 1, 1, [], 0) := by decide +kernel
theorem f168_238 : zF 168 238 = some (.iload_n 2, 1, [], 0) := by decide +kernel
theorem f168_239 : zF 168 239 = some (.invokevirtual 186, 3, [0, 167, 10, 3, 4, 0, 0], 0) := by decide +kernel
theorem f168_242 : zF 168 242 = some (.goto (-158), 3, [], 0) := by decide +kernel
theorem f168_245 : zF 168 245 = some (.return_, 1, [], 0) := by decide +kernel
theorem f169_0 : zF 169 0 = some (.aload_n 0, 1, [], 0) := rfl
theorem f169_1 : zF 169 1 = some (.iconst 0, 1, [], 0) := rfl
theorem f169_2 : zF 169 2 = some (.putfield 127, 3, [10, 21, 3], 0) := rfl
theorem f169_5 : zF 169 5 = some (.iconst 0, 1, [], 0) := rfl
theorem f169_6 : zF 169 6 = some (.istore_n 1, 1, [], 0) := rfl
theorem f169_7 : zF 169 7 = some (.iload_n 1, 1, [], 0) := rfl
theorem f169_8 : zF 169 8 = some (.iconst 4, 1, [], 0) := rfl
theorem f169_9 : zF 169 9 = some (.if_icmp .ge 21, 3, [], 0) := rfl
theorem f169_12 : zF 169 12 = some (.aload_n 0, 1, [], 0) := rfl
theorem f169_13 : zF 169 13 = some (.getfield 127, 3, [10, 21, 3], 0) := rfl
theorem f169_16 : zF 169 16 = some (.ifCond .ne 14, 3, [], 0) := rfl
theorem f169_19 : zF 169 19 = some (.aload_n 0, 1, [], 0) := rfl
theorem f169_20 : zF 169 20 = some (.iload_n 1, 1, [], 0) := rfl
theorem f169_21 : zF 169 21 = some (.invokevirtual 189, 3, [0, 168, 10, 2, 3, 0, 0], 0) := rfl
theorem f169_24 : zF 169 24 = some (.iinc 1 1, 3, [], 0) := rfl
theorem f169_27 : zF 169 27 = some (.goto (-20), 3, [], 0) := rfl
theorem f169_30 : zF 169 30 = some (.aload_n 0, 1, [], 0) := rfl
theorem f169_31 : zF 169 31 = some (.getfield 127, 3, [10, 21, 3], 0) := rfl
theorem f169_34 : zF 169 34 = some (.ifCond .ne 7, 3, [], 0) := rfl
theorem f169_37 : zF 169 37 = some (.iconst 1, 1, [], 0) := rfl
theorem f169_38 : zF 169 38 = some (.goto 4, 3, [], 0) := rfl
theorem f169_41 : zF 169 41 = some (.iconst 0, 1, [], 0) := rfl
theorem f169_42 : zF 169 42 = some (.ireturn, 1, [1], 0) := rfl
theorem f170_0 : zF 170 0 = some (.aload_n 0, 1, [], 0) := rfl
theorem f170_1 : zF 170 1 = some (.getfield 42, 3, [10, 12, 2], 0) := rfl
theorem f170_4 : zF 170 4 = some (.bipush 30, 2, [], 0) := rfl
theorem f170_6 : zF 170 6 = some (.iload_n 1, 1, [], 0) := rfl
theorem f170_7 : zF 170 7 = some (.imul, 1, [], 0) := rfl
theorem f170_8 : zF 170 8 = some (.iload_n 2, 1, [], 0) := rfl
theorem f170_9 : zF 170 9 = some (.iadd, 1, [], 0) := rfl
theorem f170_10 : zF 170 10 = some (.iaload, 1, [], 0) := rfl
theorem f170_11 : zF 170 11 = some (.ireturn, 1, [0], 0) := rfl
theorem f171_0 : zF 171 0 = some (.aload_n 0, 1, [], 0) := rfl
theorem f171_1 : zF 171 1 = some (.getfield 45, 3, [10, 13, 2], 0) := rfl
theorem f171_4 : zF 171 4 = some (.bipush 30, 2, [], 0) := rfl
theorem f171_6 : zF 171 6 = some (.iload_n 1, 1, [], 0) := rfl
theorem f171_7 : zF 171 7 = some (.imul, 1, [], 0) := rfl
theorem f171_8 : zF 171 8 = some (.iload_n 2, 1, [], 0) := rfl
theorem f171_9 : zF 171 9 = some (.iadd, 1, [], 0) := rfl
theorem f171_10 : zF 171 10 = some (.iaload, 1, [], 0) := rfl
theorem f171_11 : zF 171 11 = some (.ireturn, 1, [0], 0) := rfl
theorem f172_0 : zF 172 0 = some (.iload_n 1, 1, [], 0) := rfl
theorem f172_1 : zF 172 1 = some (.i2l, 1, [], 0) := rfl
theorem f172_2 : zF 172 2 = some (.invokestatic 192, 3, [1, 154, 0, 1, 2, 0, 0], 0) := rfl
theorem f172_5 : zF 172 5 = some (.ifCond .ne 5, 3, [], 0) := rfl
theorem f172_8 : zF 172 8 = some (.iconst (-1), 1, [], 0) := rfl
theorem f172_9 : zF 172 9 = some (.ireturn, 1, [0], 0) := rfl
theorem f172_10 : zF 172 10 = some (.iload_n 2, 1, [], 0) := rfl
theorem f172_11 : zF 172 11 = some (.tableswitch 79 0 5 #[37, 44, 51, 58, 65, 72], 37, [], 0) := rfl
theorem f172_48 : zF 172 48 = some (.aload_n 0, 1, [], 0) := rfl
theorem f172_49 : zF 172 49 = some (.getfield 51, 3, [10, 15, 2], 0) := rfl
theorem f172_52 : zF 172 52 = some (.iload_n 1, 1, [], 0) := rfl
theorem f172_53 : zF 172 53 = some (.iaload, 1, [], 0) := rfl
theorem f172_54 : zF 172 54 = some (.ireturn, 1, [0], 0) := rfl
theorem f172_55 : zF 172 55 = some (.aload_n 0, 1, [], 0) := rfl
theorem f172_56 : zF 172 56 = some (.getfield 54, 3, [10, 16, 2], 0) := rfl
theorem f172_59 : zF 172 59 = some (.iload_n 1, 1, [], 0) := rfl
theorem f172_60 : zF 172 60 = some (.iaload, 1, [], 0) := rfl
theorem f172_61 : zF 172 61 = some (.ireturn, 1, [0], 0) := rfl
theorem f172_62 : zF 172 62 = some (.aload_n 0, 1, [], 0) := rfl
theorem f172_63 : zF 172 63 = some (.getfield 57, 3, [10, 17, 2], 0) := rfl
theorem f172_66 : zF 172 66 = some (.iload_n 1, 1, [], 0) := rfl
theorem f172_67 : zF 172 67 = some (.iaload, 1, [], 0) := rfl
theorem f172_68 : zF 172 68 = some (.ireturn, 1, [0], 0) := rfl
theorem f172_69 : zF 172 69 = some (.aload_n 0, 1, [], 0) := rfl
theorem f172_70 : zF 172 70 = some (.getfield 60, 3, [10, 18, 2], 0) := rfl
theorem f172_73 : zF 172 73 = some (.iload_n 1, 1, [], 0) := rfl
theorem f172_74 : zF 172 74 = some (.iaload, 1, [], 0) := rfl
theorem f172_75 : zF 172 75 = some (.ireturn, 1, [0], 0) := rfl
theorem f172_76 : zF 172 76 = some (.aload_n 0, 1, [], 0) := rfl
theorem f172_77 : zF 172 77 = some (.getfield 63, 3, [10, 19, 2], 0) := rfl
theorem f172_80 : zF 172 80 = some (.iload_n 1, 1, [], 0) := rfl
theorem f172_81 : zF 172 81 = some (.iaload, 1, [], 0) := rfl
theorem f172_82 : zF 172 82 = some (.ireturn, 1, [0], 0) := rfl
theorem f172_83 : zF 172 83 = some (.aload_n 0, 1, [], 0) := rfl
theorem f172_84 : zF 172 84 = some (.getfield 66, 3, [10, 20, 2], 0) := rfl
theorem f172_87 : zF 172 87 = some (.iload_n 1, 1, [], 0) := rfl
theorem f172_88 : zF 172 88 = some (.iaload, 1, [], 0) := rfl
theorem f172_89 : zF 172 89 = some (.ireturn, 1, [0], 0) := rfl
theorem f172_90 : zF 172 90 = some (.iconst (-1), 1, [], 0) := rfl
theorem f172_91 : zF 172 91 = some (.ireturn, 1, [0], 0) := rfl
theorem f173_0 : zF 173 0 = some (.iload_n 1, 1, [], 0) := rfl
theorem f173_1 : zF 173 1 = some (.i2l, 1, [], 0) := rfl
theorem f173_2 : zF 173 2 = some (.invokestatic 192, 3, [1, 154, 0, 1, 2, 0, 0], 0) := rfl
theorem f173_5 : zF 173 5 = some (.ifCond .eq 21, 3, [], 0) := rfl
theorem f173_8 : zF 173 8 = some (.iload_n 2, 1, [], 0) := rfl
theorem f173_9 : zF 173 9 = some (.i2l, 1, [], 0) := rfl
theorem f173_10 : zF 173 10 = some (.lconst 0, 1, [], 0) := rfl
theorem f173_11 : zF 173 11 = some (.aload_n 0, 1, [], 0) := rfl
theorem f173_12 : zF 173 12 = some (.getfield 51, 3, [10, 15, 2], 0) := rfl
theorem f173_15 : zF 173 15 = some (.iload_n 1, 1, [], 0) := rfl
theorem f173_16 : zF 173 16 = some (.iaload, 1, [], 0) := rfl
theorem f173_17 : zF 173 17 = some (.iconst 1, 1, [], 0) := rfl
theorem f173_18 : zF 173 18 = some (.isub, 1, [], 0) := rfl
theorem f173_19 : zF 173 19 = some (.i2l, 1, [], 0) := rfl
theorem f173_20 : zF 173 20 = some (.invokestatic 121, 3, [1, 151, 0, 3, 6, 0, 0], 0) := rfl
theorem f173_23 : zF 173 23 = some (.ifCond .ne 5, 3, [], 0) := rfl
theorem f173_26 : zF 173 26 = some (.iconst (-1), 1, [], 0) := rfl
theorem f173_27 : zF 173 27 = some (.ireturn, 1, [0], 0) := rfl
theorem f173_28 : zF 173 28 = some (.iload_n 3, 1, [], 0) := rfl
theorem f173_29 : zF 173 29 = some (.ifCond .ne 12, 3, [], 0) := rfl
theorem f173_32 : zF 173 32 = some (.aload_n 0, 1, [], 0) := rfl
theorem f173_33 : zF 173 33 = some (.iload_n 1, 1, [], 0) := rfl
theorem f173_34 : zF 173 34 = some (.iload_n 2, 1, [], 0) := rfl
theorem f173_35 : zF 173 35 = some (.invokevirtual 196, 3, [0, 170, 10, 3, 3, 0, 0], 0) := rfl
theorem f173_38 : zF 173 38 = some (.goto 40, 3, [], 0) := rfl
theorem f173_41 : zF 173 41 = some (.iload_n 3, 1, [], 0) := rfl
theorem f173_42 : zF 173 42 = some (.iconst 1, 1, [], 0) := rfl
theorem f173_43 : zF 173 43 = some (.if_icmp .ne 12, 3, [], 0) := rfl
theorem f173_46 : zF 173 46 = some (.aload_n 0, 1, [], 0) := rfl
theorem f173_47 : zF 173 47 = some (.iload_n 1, 1, [], 0) := rfl
theorem f173_48 : zF 173 48 = some (.iload_n 2, 1, [], 0) := rfl
theorem f173_49 : zF 173 49 = some (.invokevirtual 199, 3, [0, 171, 10, 3, 3, 0, 0], 0) := rfl
theorem f173_52 : zF 173 52 = some (.goto 26, 3, [], 0) := rfl
theorem f173_55 : zF 173 55 = some (.iload_n 3, 1, [], 0) := rfl
theorem f173_56 : zF 173 56 = some (.iconst 2, 1, [], 0) := rfl
theorem f173_57 : zF 173 57 = some (.if_icmp .ne 20, 3, [], 0) := rfl
theorem f173_60 : zF 173 60 = some (.aload_n 0, 1, [], 0) := rfl
theorem f173_61 : zF 173 61 = some (.getfield 48, 3, [10, 14, 2], 0) := rfl
theorem f173_64 : zF 173 64 = some (.bipush 30, 2, [], 0) := rfl
theorem f173_66 : zF 173 66 = some (.iload_n 1, 1, [], 0) := rfl
theorem f173_67 : zF 173 67 = some (.imul, 1, [], 0) := rfl
theorem f173_68 : zF 173 68 = some (.iload_n 2, 1, [], 0) := rfl
theorem f173_69 : zF 173 69 = some (.iadd, 1, [], 0) := rfl
theorem f173_70 : zF 173 70 = some (.iaload, 1, [], 0) := rfl
theorem f173_71 : zF 173 71 = some (.bipush 10, 2, [], 0) := rfl
theorem f173_73 : zF 173 73 = some (.iadd, 1, [], 0) := rfl
theorem f173_74 : zF 173 74 = some (.goto 4, 3, [], 0) := rfl
theorem f173_77 : zF 173 77 = some (.iconst (-1), 1, [], 0) := rfl
theorem f173_78 : zF 173 78 = some (.ireturn, 1, [0], 0) := rfl
theorem f174_0 : zF 174 0 = some (.iconst 0, 1, [], 0) := rfl
theorem f174_1 : zF 174 1 = some (.istore_n 1, 1, [], 0) := rfl
theorem f174_2 : zF 174 2 = some (.iload_n 1, 1, [], 0) := rfl
theorem f174_3 : zF 174 3 = some (.sipush 270, 3, [], 0) := rfl
theorem f174_6 : zF 174 6 = some (.if_icmp .ge 21, 3, [], 0) := rfl
theorem f174_9 : zF 174 9 = some (.aload_n 0, 1, [], 0) := rfl
theorem f174_10 : zF 174 10 = some (.getfield 90, 3, [10, 33, 2], 0) := rfl
theorem f174_13 : zF 174 13 = some (.iload_n 1, 1, [], 0) := rfl
theorem f174_14 : zF 174 14 = some (.aload_n 0, 1, [], 0) := rfl
theorem f174_15 : zF 174 15 = some (.getfield 7, 3, [10, 0, 2], 0) := rfl
theorem f174_18 : zF 174 18 = some (.iload_n 1, 1, [], 0) := rfl
theorem f174_19 : zF 174 19 = some (.iaload, 1, [], 0) := rfl
theorem f174_20 : zF 174 20 = some (.iastore, 1, [], 0) := rfl
theorem f174_21 : zF 174 21 = some (.iinc 1 1, 3, [], 0) := rfl
theorem f174_24 : zF 174 24 = some (.goto (-22), 3, [], 0) := rfl
theorem f174_27 : zF 174 27 = some (.return_, 1, [], 0) := rfl
theorem f175_0 : zF 175 0 = some (.aload_n 0, 1, [], 0) := rfl
theorem f175_1 : zF 175 1 = some (.getfield 202, 3, [10, 2, 0], 0) := rfl
theorem f175_4 : zF 175 4 = some (.bipush 6, 2, [], 0) := rfl
theorem f175_6 : zF 175 6 = some (.if_icmp .ne 39, 3, [], 0) := rfl
theorem f175_9 : zF 175 9 = some (.iconst 0, 1, [], 0) := rfl
theorem f175_10 : zF 175 10 = some (.istore_n 1, 1, [], 0) := rfl
theorem f175_11 : zF 175 11 = some (.iload_n 1, 1, [], 0) := rfl
theorem f175_12 : zF 175 12 = some (.sipush 1350, 3, [], 0) := rfl
theorem f175_15 : zF 175 15 = some (.if_icmp .ge 25, 3, [], 0) := rfl
theorem f175_18 : zF 175 18 = some (.aload_n 0, 1, [], 0) := rfl
theorem f175_19 : zF 175 19 = some (.getfield 13, 3, [10, 1, 2], 0) := rfl
theorem f175_22 : zF 175 22 = some (.iload_n 1, 1, [], 0) := rfl
theorem f175_23 : zF 175 23 = some (.aload_n 0, 1, [], 0) := rfl
theorem f175_24 : zF 175 24 = some (.getfield 13, 3, [10, 1, 2], 0) := rfl
theorem f175_27 : zF 175 27 = some (.iload_n 1, 1, [], 0) := rfl
theorem f175_28 : zF 175 28 = some (.sipush 270, 3, [], 0) := rfl
theorem f175_31 : zF 175 31 = some (.iadd, 1, [], 0) := rfl
theorem f175_32 : zF 175 32 = some (.iaload, 1, [], 0) := rfl
theorem f175_33 : zF 175 33 = some (.iastore, 1, [], 0) := rfl
theorem f175_34 : zF 175 34 = some (.iinc 1 1, 3, [], 0) := rfl
theorem f175_37 : zF 175 37 = some (.goto (-26), 3, [], 0) := rfl
theorem f175_40 : zF 175 40 = some (.aload_n 0, 1, [], 0) := rfl
theorem f175_41 : zF 175 41 = some (.iconst 5, 1, [], 0) := rfl
theorem f175_42 : zF 175 42 = some (.putfield 202, 3, [10, 2, 0], 0) := rfl
theorem f175_45 : zF 175 45 = some (.iconst 0, 1, [], 0) := rfl
theorem f175_46 : zF 175 46 = some (.istore_n 1, 1, [], 0) := rfl
theorem f175_47 : zF 175 47 = some (.iload_n 1, 1, [], 0) := rfl
theorem f175_48 : zF 175 48 = some (.sipush 270, 3, [], 0) := rfl
theorem f175_51 : zF 175 51 = some (.if_icmp .ge 30, 3, [], 0) := rfl
theorem f175_54 : zF 175 54 = some (.aload_n 0, 1, [], 0) := rfl
theorem f175_55 : zF 175 55 = some (.getfield 13, 3, [10, 1, 2], 0) := rfl
theorem f175_58 : zF 175 58 = some (.sipush 270, 3, [], 0) := rfl
theorem f175_61 : zF 175 61 = some (.aload_n 0, 1, [], 0) := rfl
theorem f175_62 : zF 175 62 = some (.getfield 202, 3, [10, 2, 0], 0) := rfl
theorem f175_65 : zF 175 65 = some (.imul, 1, [], 0) := rfl
theorem f175_66 : zF 175 66 = some (.iload_n 1, 1, [], 0) := rfl
theorem f175_67 : zF 175 67 = some (.iadd, 1, [], 0) := rfl
theorem f175_68 : zF 175 68 = some (.aload_n 0, 1, [], 0) := rfl
theorem f175_69 : zF 175 69 = some (.getfield 90, 3, [10, 33, 2], 0) := rfl
theorem f175_72 : zF 175 72 = some (.iload_n 1, 1, [], 0) := rfl
theorem f175_73 : zF 175 73 = some (.iaload, 1, [], 0) := rfl
theorem f175_74 : zF 175 74 = some (.iastore, 1, [], 0) := rfl
theorem f175_75 : zF 175 75 = some (.iinc 1 1, 3, [], 0) := rfl
theorem f175_78 : zF 175 78 = some (.goto (-31), 3, [], 0) := rfl
theorem f175_81 : zF 175 81 = some (.aload_n 0, 1, [], 0) := rfl
theorem f175_82 : zF 175 82 = some (.dup, 1, [], 0) := rfl
theorem f175_83 : zF 175 83 = some (.getfield 202, 3, [10, 2, 0], 0) := rfl
theorem f175_86 : zF 175 86 = some (.iconst 1, 1, [], 0) := rfl
theorem f175_87 : zF 175 87 = some (.iadd, 1, [], 0) := rfl
theorem f175_88 : zF 175 88 = some (.putfield 202, 3, [10, 2, 0], 0) := rfl
theorem f175_91 : zF 175 91 = some (.return_, 1, [], 0) := rfl
theorem f176_0 : zF 176 0 = some (.iconst 0, 1, [], 0) := rfl
theorem f176_1 : zF 176 1 = some (.istore_n 1, 1, [], 0) := rfl
theorem f176_2 : zF 176 2 = some (.iload_n 1, 1, [], 0) := rfl
theorem f176_3 : zF 176 3 = some (.sipush 270, 3, [], 0) := rfl
theorem f176_6 : zF 176 6 = some (.if_icmp .ge 21, 3, [], 0) := rfl
theorem f176_9 : zF 176 9 = some (.aload_n 0, 1, [], 0) := rfl
theorem f176_10 : zF 176 10 = some (.getfield 7, 3, [10, 0, 2], 0) := rfl
theorem f176_13 : zF 176 13 = some (.iload_n 1, 1, [], 0) := rfl
theorem f176_14 : zF 176 14 = some (.aload_n 0, 1, [], 0) := rfl
theorem f176_15 : zF 176 15 = some (.getfield 90, 3, [10, 33, 2], 0) := rfl
theorem f176_18 : zF 176 18 = some (.iload_n 1, 1, [], 0) := rfl
theorem f176_19 : zF 176 19 = some (.iaload, 1, [], 0) := rfl
theorem f176_20 : zF 176 20 = some (.iastore, 1, [], 0) := rfl
theorem f176_21 : zF 176 21 = some (.iinc 1 1, 3, [], 0) := rfl
theorem f176_24 : zF 176 24 = some (.goto (-22), 3, [], 0) := rfl
theorem f176_27 : zF 176 27 = some (.return_, 1, [], 0) := rfl
theorem f177_0 : zF 177 0 = some (.iconst 0, 1, [], 0) := rfl
theorem f177_1 : zF 177 1 = some (.istore_n 1, 1, [], 0) := rfl
theorem f177_2 : zF 177 2 = some (.iconst 0, 1, [], 0) := rfl
theorem f177_3 : zF 177 3 = some (.istore_n 2, 1, [], 0) := rfl
theorem f177_4 : zF 177 4 = some (.iload_n 2, 1, [], 0) := rfl
theorem f177_5 : zF 177 5 = some (.iconst 4, 1, [], 0) := rfl
theorem f177_6 : zF 177 6 = some (.if_icmp .ge 39, 3, [], 0) := rfl
theorem f177_9 : zF 177 9 = some (.iload_n 1, 1, [], 0) := rfl
theorem f177_10 : zF 177 10 = some (.ifCond .ne 23, 3, [], 0) := rfl
theorem f177_13 : zF 177 13 = some (.aload_n 0, 1, [], 0) := rfl
theorem f177_14 : zF 177 14 = some (.iload_n 2, 1, [], 0) := rfl
theorem f177_15 : zF 177 15 = some (.iconst 0, 1, [], 0) := rfl
theorem f177_16 : zF 177 16 = some (.invokevirtual 205, 3, [0, 156, 10, 3, 3, 0, 0], 0) := rfl
theorem f177_19 : zF 177 19 = some (.iconst 1, 1, [], 0) := rfl
theorem f177_20 : zF 177 20 = some (.if_icmp .eq 13, 3, [], 0) := rfl
theorem f177_23 : zF 177 23 = some (.aload_n 0, 1, [], 0) := rfl
theorem f177_24 : zF 177 24 = some (.iload_n 2, 1, [], 0) := rfl
theorem f177_25 : zF 177 25 = some (.iconst 0, 1, [], 0) := rfl
theorem f177_26 : zF 177 26 = some (.invokevirtual 205, 3, [0, 156, 10, 3, 3, 0, 0], 0) := rfl
theorem f177_29 : zF 177 29 = some (.iconst 2, 1, [], 0) := rfl
theorem f177_30 : zF 177 30 = some (.if_icmp .ne 7, 3, [], 0) := rfl
theorem f177_33 : zF 177 33 = some (.iconst 1, 1, [], 0) := rfl
theorem f177_34 : zF 177 34 = some (.goto 4, 3, [], 0) := rfl
theorem f177_37 : zF 177 37 = some (.iconst 0, 1, [], 0) := rfl
theorem f177_38 : zF 177 38 = some (.istore_n 1, 1, [], 0) := rfl
theorem f177_39 : zF 177 39 = some (.iinc 2 1, 3, [], 0) := rfl
theorem f177_42 : zF 177 42 = some (.goto (-38), 3, [], 0) := rfl
theorem f177_45 : zF 177 45 = some (.iload_n 1, 1, [], 0) := rfl
theorem f177_46 : zF 177 46 = some (.ireturn, 1, [1], 0) := rfl
theorem f178_0 : zF 178 0 = some (.aload_n 0, 1, [], 0) := rfl
theorem f178_1 : zF 178 1 = some (.iload_n 1, 1, [], 0) := rfl
theorem f178_2 : zF 178 2 = some (.iconst 0, 1, [], 0) := rfl
theorem f178_3 : zF 178 3 = some (.iconst 0, 1, [], 0) := rfl
theorem f178_4 : zF 178 4 = some (.invokevirtual 111, 3, [0, 157, 10, 4, 4, 0, 0], 0) := rfl
theorem f178_7 : zF 178 7 = some (.aload_n 0, 1, [], 0) := rfl
theorem f178_8 : zF 178 8 = some (.iload_n 1, 1, [], 0) := rfl
theorem f178_9 : zF 178 9 = some (.iconst 1, 1, [], 0) := rfl
theorem f178_10 : zF 178 10 = some (.iconst 0, 1, [], 0) := rfl
theorem f178_11 : zF 178 11 = some (.invokevirtual 111, 3, [0, 157, 10, 4, 4, 0, 0], 0) := rfl
theorem f178_14 : zF 178 14 = some (.aload_n 0, 1, [], 0) := rfl
theorem f178_15 : zF 178 15 = some (.iload_n 1, 1, [], 0) := rfl
theorem f178_16 : zF 178 16 = some (.iconst 2, 1, [], 0) := rfl
theorem f178_17 : zF 178 17 = some (.bipush (-4), 2, [], 0) := rfl
theorem f178_19 : zF 178 19 = some (.invokevirtual 111, 3, [0, 157, 10, 4, 4, 0, 0], 0) := rfl
theorem f178_22 : zF 178 22 = some (.return_, 1, [], 0) := rfl
theorem f179_0 : zF 179 0 = some (.iload_n 1, 1, [], 0) := rfl
theorem f179_1 : zF 179 1 = some (.i2l, 1, [], 0) := rfl
theorem f179_2 : zF 179 2 = some (.ldc2_w 208, 3, [], 32) := rfl
theorem f179_5 : zF 179 5 = some (.ldc2_w 210, 3, [], 126) := rfl
theorem f179_8 : zF 179 8 = some (.invokestatic 121, 3, [1, 151, 0, 3, 6, 0, 0], 0) := rfl
theorem f179_11 : zF 179 11 = some (.ifCond .ne 5, 3, [], 0) := rfl
theorem f179_14 : zF 179 14 = some (.iconst (-1), 1, [], 0) := rfl
theorem f179_15 : zF 179 15 = some (.ireturn, 1, [0], 0) := rfl
theorem f179_16 : zF 179 16 = some (.aload_n 0, 1, [], 0) := rfl
theorem f179_17 : zF 179 17 = some (.getfield 212, 3, [10, 7, 0], 0) := rfl
theorem f179_20 : zF 179 20 = some (.bipush 60, 2, [], 0) := rfl
theorem f179_22 : zF 179 22 = some (.if_icmp .ne 6, 3, [], 0) := rfl
theorem f179_25 : zF 179 25 = some (.bipush (-3), 2, [], 0) := rfl
theorem f179_27 : zF 179 27 = some (.ireturn, 1, [0], 0) := rfl
theorem f179_28 : zF 179 28 = some (.aload_n 0, 1, [], 0) := rfl
theorem f179_29 : zF 179 29 = some (.getfield 26, 3, [10, 6, 2], 0) := rfl
theorem f179_32 : zF 179 32 = some (.aload_n 0, 1, [], 0) := rfl
theorem f179_33 : zF 179 33 = some (.getfield 212, 3, [10, 7, 0], 0) := rfl
theorem f179_36 : zF 179 36 = some (.iload_n 1, 1, [], 0) := rfl
theorem f179_37 : zF 179 37 = some (.iastore, 1, [], 0) := rfl
theorem f179_38 : zF 179 38 = some (.aload_n 0, 1, [], 0) := rfl
theorem f179_39 : zF 179 39 = some (.dup, 1, [], 0) := rfl
theorem f179_40 : zF 179 40 = some (.getfield 212, 3, [10, 7, 0], 0) := rfl
theorem f179_43 : zF 179 43 = some (.iconst 1, 1, [], 0) := rfl
theorem f179_44 : zF 179 44 = some (.iadd, 1, [], 0) := rfl
theorem f179_45 : zF 179 45 = some (.putfield 212, 3, [10, 7, 0], 0) := rfl
theorem f179_48 : zF 179 48 = some (.aload_n 0, 1, [], 0) := rfl
theorem f179_49 : zF 179 49 = some (.getfield 212, 3, [10, 7, 0], 0) := rfl
theorem f179_52 : zF 179 52 = some (.ireturn, 1, [0], 0) := rfl
theorem f180_0 : zF 180 0 = some (.aload_n 0, 1, [], 0) := rfl
theorem f180_1 : zF 180 1 = some (.getfield 215, 3, [10, 34, 0], 0) := rfl
theorem f180_4 : zF 180 4 = some (.aload_n 0, 1, [], 0) := rfl
theorem f180_5 : zF 180 5 = some (.getfield 212, 3, [10, 7, 0], 0) := rfl
theorem f180_8 : zF 180 8 = some (.if_icmp .ge 30, 3, [], 0) := rfl
theorem f180_11 : zF 180 11 = some (.aload_n 0, 1, [], 0) := rfl
theorem f180_12 : zF 180 12 = some (.getfield 26, 3, [10, 6, 2], 0) := rfl
theorem f180_15 : zF 180 15 = some (.aload_n 0, 1, [], 0) := rfl
theorem f180_16 : zF 180 16 = some (.getfield 215, 3, [10, 34, 0], 0) := rfl
theorem f180_19 : zF 180 19 = some (.iaload, 1, [], 0) := rfl
theorem f180_20 : zF 180 20 = some (.bipush 32, 2, [], 0) := rfl
theorem f180_22 : zF 180 22 = some (.if_icmp .ne 16, 3, [], 0) := rfl
theorem f180_25 : zF 180 25 = some (.aload_n 0, 1, [], 0) := rfl
theorem f180_26 : zF 180 26 = some (.dup, 1, [], 0) := rfl
theorem f180_27 : zF 180 27 = some (.getfield 215, 3, [10, 34, 0], 0) := rfl
theorem f180_30 : zF 180 30 = some (.iconst 1, 1, [], 0) := rfl
theorem f180_31 : zF 180 31 = some (.iadd, 1, [], 0) := rfl
theorem f180_32 : zF 180 32 = some (.putfield 215, 3, [10, 34, 0], 0) := rfl
theorem f180_35 : zF 180 35 = some (.goto (-35), 3, [], 0) := rfl
theorem f180_38 : zF 180 38 = some (.aload_n 0, 1, [], 0) := rfl
theorem f180_39 : zF 180 39 = some (.getfield 215, 3, [10, 34, 0], 0) := rfl
theorem f180_42 : zF 180 42 = some (.aload_n 0, 1, [], 0) := rfl
theorem f180_43 : zF 180 43 = some (.getfield 212, 3, [10, 7, 0], 0) := rfl
theorem f180_46 : zF 180 46 = some (.if_icmp .ge 15, 3, [], 0) := rfl
theorem f180_49 : zF 180 49 = some (.aload_n 0, 1, [], 0) := rfl
theorem f180_50 : zF 180 50 = some (.getfield 26, 3, [10, 6, 2], 0) := rfl
theorem f180_53 : zF 180 53 = some (.aload_n 0, 1, [], 0) := rfl
theorem f180_54 : zF 180 54 = some (.getfield 215, 3, [10, 34, 0], 0) := rfl
theorem f180_57 : zF 180 57 = some (.iaload, 1, [], 0) := rfl
theorem f180_58 : zF 180 58 = some (.goto 4, 3, [], 0) := rfl
theorem f180_61 : zF 180 61 = some (.iconst 0, 1, [], 0) := rfl
theorem f180_62 : zF 180 62 = some (.ireturn, 1, [0], 0) := rfl
theorem f181_0 : zF 181 0 = some (.aload_n 0, 1, [], 0) := rfl
theorem f181_1 : zF 181 1 = some (.getfield 93, 3, [10, 35, 2], 0) := rfl
theorem f181_4 : zF 181 4 = some (.aload_n 0, 1, [], 0) := rfl
theorem f181_5 : zF 181 5 = some (.getfield 218, 3, [10, 36, 0], 0) := rfl
theorem f181_8 : zF 181 8 = some (.aload_n 0, 1, [], 0) := rfl
theorem f181_9 : zF 181 9 = some (.invokevirtual 221, 3, [0, 180, 10, 1, 1, 0, 0], 0) := rfl
theorem f181_12 : zF 181 12 = some (.iastore, 1, [], 0) := rfl
theorem f181_13 : zF 181 13 = some (.aload_n 0, 1, [], 0) := rfl
theorem f181_14 : zF 181 14 = some (.dup, 1, [], 0) := rfl
theorem f181_15 : zF 181 15 = some (.getfield 218, 3, [10, 36, 0], 0) := rfl
theorem f181_18 : zF 181 18 = some (.iconst 1, 1, [], 0) := rfl
theorem f181_19 : zF 181 19 = some (.iadd, 1, [], 0) := rfl
theorem f181_20 : zF 181 20 = some (.putfield 218, 3, [10, 36, 0], 0) := rfl
theorem f181_23 : zF 181 23 = some (.aload_n 0, 1, [], 0) := rfl
theorem f181_24 : zF 181 24 = some (.dup, 1, [], 0) := rfl
theorem f181_25 : zF 181 25 = some (.getfield 215, 3, [10, 34, 0], 0) := rfl
theorem f181_28 : zF 181 28 = some (.iconst 1, 1, [], 0) := rfl
theorem f181_29 : zF 181 29 = some (.iadd, 1, [], 0) := rfl
theorem f181_30 : zF 181 30 = some (.putfield 215, 3, [10, 34, 0], 0) := rfl
theorem f181_33 : zF 181 33 = some (.return_, 1, [], 0) := rfl
theorem f182_0 : zF 182 0 = some (.iload_n 1, 1, [], 0) := rfl
theorem f182_1 : zF 182 1 = some (.ifCond .eq 7, 3, [], 0) := rfl
theorem f182_4 : zF 182 4 = some (.aload_n 0, 1, [], 0) := rfl
theorem f182_5 : zF 182 5 = some (.invokevirtual 225, 3, [0, 181, 10, 1, 1, 0, 0], 0) := rfl
theorem f182_8 : zF 182 8 = some (.iload_n 1, 1, [], 0) := rfl
theorem f182_9 : zF 182 9 = some (.ireturn, 1, [1], 0) := rfl
theorem f183_0 : zF 183 0 = some (.aload_n 0, 1, [], 0) := rfl
theorem f183_1 : zF 183 1 = some (.getfield 131, 3, [10, 26, 0], 0) := rfl
theorem f183_4 : zF 183 4 = some (.bipush 6, 2, [], 0) := rfl
theorem f183_6 : zF 183 6 = some (.if_icmp .ne 5, 3, [], 0) := rfl
theorem f183_9 : zF 183 9 = some (.iconst 0, 1, [], 0) := rfl
theorem f183_10 : zF 183 10 = some (.ireturn, 1, [1], 0) := rfl
theorem f183_11 : zF 183 11 = some (.aload_n 0, 1, [], 0) := rfl
theorem f183_12 : zF 183 12 = some (.getfield 69, 3, [10, 22, 2], 0) := rfl
theorem f183_15 : zF 183 15 = some (.aload_n 0, 1, [], 0) := rfl
theorem f183_16 : zF 183 16 = some (.getfield 131, 3, [10, 26, 0], 0) := rfl
theorem f183_19 : zF 183 19 = some (.aload_n 0, 1, [], 0) := rfl
theorem f183_20 : zF 183 20 = some (.invokevirtual 221, 3, [0, 180, 10, 1, 1, 0, 0], 0) := rfl
theorem f183_23 : zF 183 23 = some (.iastore, 1, [], 0) := rfl
theorem f183_24 : zF 183 24 = some (.aload_n 0, 1, [], 0) := rfl
theorem f183_25 : zF 183 25 = some (.dup, 1, [], 0) := rfl
theorem f183_26 : zF 183 26 = some (.getfield 131, 3, [10, 26, 0], 0) := rfl
theorem f183_29 : zF 183 29 = some (.iconst 1, 1, [], 0) := rfl
theorem f183_30 : zF 183 30 = some (.iadd, 1, [], 0) := rfl
theorem f183_31 : zF 183 31 = some (.putfield 131, 3, [10, 26, 0], 0) := rfl
theorem f183_34 : zF 183 34 = some (.aload_n 0, 1, [], 0) := rfl
theorem f183_35 : zF 183 35 = some (.invokevirtual 225, 3, [0, 181, 10, 1, 1, 0, 0], 0) := rfl
theorem f183_38 : zF 183 38 = some (.iconst 1, 1, [], 0) := rfl
theorem f183_39 : zF 183 39 = some (.ireturn, 1, [1], 0) := rfl
theorem f184_0 : zF 184 0 = some (.iload_n 0, 1, [], 0) := rfl
theorem f184_1 : zF 184 1 = some (.bipush 40, 2, [], 0) := rfl
theorem f184_3 : zF 184 3 = some (.if_icmp .ne 8, 3, [], 0) := rfl
theorem f184_6 : zF 184 6 = some (.bipush 41, 2, [], 0) := rfl
theorem f184_8 : zF 184 8 = some (.goto 16, 3, [], 0) := rfl
theorem f184_11 : zF 184 11 = some (.iload_n 0, 1, [], 0) := rfl
theorem f184_12 : zF 184 12 = some (.bipush 91, 2, [], 0) := rfl
theorem f184_14 : zF 184 14 = some (.if_icmp .ne 8, 3, [], 0) := rfl
theorem f184_17 : zF 184 17 = some (.bipush 93, 2, [], 0) := rfl
theorem f184_19 : zF 184 19 = some (.goto 5, 3, [], 0) := rfl
theorem f184_22 : zF 184 22 = some (.bipush 125, 2, [], 0) := rfl
theorem f184_24 : zF 184 24 = some (.ireturn, 1, [0], 0) := rfl
theorem f185_0 : zF 185 0 = some (.aload_n 0, 1, [], 0) := rfl
theorem f185_1 : zF 185 1 = some (.invokevirtual 225, 3, [0, 181, 10, 1, 1, 0, 0], 0) := rfl
theorem f185_4 : zF 185 4 = some (.aload_n 0, 1, [], 0) := rfl
theorem f185_5 : zF 185 5 = some (.invokevirtual 221, 3, [0, 180, 10, 1, 1, 0, 0], 0) := rfl
theorem f185_8 : zF 185 8 = some (.bipush 40, 2, [], 0) := rfl
theorem f185_10 : zF 185 10 = some (.if_icmp .ne 8, 3, [], 0) := rfl
theorem f185_13 : zF 185 13 = some (.aload_n 0, 1, [], 0) := rfl
theorem f185_14 : zF 185 14 = some (.invokevirtual 228, 3, [0, 183, 10, 1, 1, 0, 0], 0) := rfl
theorem f185_17 : zF 185 17 = some (.ireturn, 1, [1], 0) := rfl
theorem f185_18 : zF 185 18 = some (.aload_n 0, 1, [], 0) := rfl
theorem f185_19 : zF 185 19 = some (.aload_n 0, 1, [], 0) := rfl
theorem f185_20 : zF 185 20 = some (.invokevirtual 221, 3, [0, 180, 10, 1, 1, 0, 0], 0) := rfl
theorem f185_23 : zF 185 23 = some (.bipush 43, 2, [], 0) := rfl
theorem f185_25 : zF 185 25 = some (.if_icmp .eq 12, 3, [], 0) := rfl
theorem f185_28 : zF 185 28 = some (.aload_n 0, 1, [], 0) := rfl
theorem f185_29 : zF 185 29 = some (.invokevirtual 221, 3, [0, 180, 10, 1, 1, 0, 0], 0) := rfl
theorem f185_32 : zF 185 32 = some (.bipush 45, 2, [], 0) := rfl
theorem f185_34 : zF 185 34 = some (.if_icmp .ne 7, 3, [], 0) := rfl
theorem f185_37 : zF 185 37 = some (.iconst 1, 1, [], 0) := rfl
theorem f185_38 : zF 185 38 = some (.goto 4, 3, [], 0) := rfl
theorem f185_41 : zF 185 41 = some (.iconst 0, 1, [], 0) := rfl
theorem f185_42 : zF 185 42 = some (.invokevirtual 231, 3, [0, 182, 10, 2, 2, 0, 0], 0) := rfl
theorem f185_45 : zF 185 45 = some (.ifCond .eq 28, 3, [], 0) := rfl
theorem f185_48 : zF 185 48 = some (.aload_n 0, 1, [], 0) := rfl
theorem f185_49 : zF 185 49 = some (.aload_n 0, 1, [], 0) := rfl
theorem f185_50 : zF 185 50 = some (.invokevirtual 221, 3, [0, 180, 10, 1, 1, 0, 0], 0) := rfl
theorem f185_53 : zF 185 53 = some (.i2l, 1, [], 0) := rfl
theorem f185_54 : zF 185 54 = some (.ldc2_w 235, 3, [], 49) := rfl
theorem f185_57 : zF 185 57 = some (.ldc2_w 237, 3, [], 57) := rfl
theorem f185_60 : zF 185 60 = some (.invokestatic 121, 3, [1, 151, 0, 3, 6, 0, 0], 0) := rfl
theorem f185_63 : zF 185 63 = some (.invokevirtual 231, 3, [0, 182, 10, 2, 2, 0, 0], 0) := rfl
theorem f185_66 : zF 185 66 = some (.ifCond .eq 7, 3, [], 0) := rfl
theorem f185_69 : zF 185 69 = some (.iconst 1, 1, [], 0) := rfl
theorem f185_70 : zF 185 70 = some (.goto 4, 3, [], 0) := rfl
theorem f185_73 : zF 185 73 = some (.iconst 0, 1, [], 0) := rfl
theorem f185_74 : zF 185 74 = some (.ireturn, 1, [1], 0) := rfl
theorem f186_0 : zF 186 0 = some (.aload_n 0, 1, [], 0) := rfl
theorem f186_1 : zF 186 1 = some (.iconst 0, 1, [], 0) := rfl
theorem f186_2 : zF 186 2 = some (.putfield 215, 3, [10, 34, 0], 0) := rfl
theorem f186_5 : zF 186 5 = some (.aload_n 0, 1, [], 0) := rfl
theorem f186_6 : zF 186 6 = some (.iconst 0, 1, [], 0) := rfl
theorem f186_7 : zF 186 7 = some (.putfield 218, 3, [10, 36, 0], 0) := rfl
theorem f186_10 : zF 186 10 = some (.aload_n 0, 1, [], 0) := rfl
theorem f186_11 : zF 186 11 = some (.iconst 0, 1, [], 0) := rfl
theorem f186_12 : zF 186 12 = some (.putfield 131, 3, [10, 26, 0], 0) := rfl
theorem f186_15 : zF 186 15 = some (.iconst 1, 1, [], 0) := rfl
theorem f186_16 : zF 186 16 = some (.istore_n 1, 1, [], 0) := rfl
theorem f186_17 : zF 186 17 = some (.iload_n 1, 1, [], 0) := rfl
theorem f186_18 : zF 186 18 = some (.ifCond .eq 159, 3, [], 0) := rfl
theorem f186_21 : zF 186 21 = some (.aload_n 0, 1, [], 0) := rfl
theorem f186_22 : zF 186 22 = some (.invokevirtual 221, 3, [0, 180, 10, 1, 1, 0, 0], 0) := rfl
theorem f186_25 : zF 186 25 = some (.ifCond .eq 152, 3, [], 0) := rfl
theorem f186_28 : zF 186 28 = some (.aload_n 0, 1, [], 0) := rfl
theorem f186_29 : zF 186 29 = some (.invokevirtual 221, 3, [0, 180, 10, 1, 1, 0, 0], 0) := rfl
theorem f186_32 : zF 186 32 = some (.istore_n 2, 1, [], 0) := rfl
theorem f186_33 : zF 186 33 = some (.iload_n 2, 1, [], 0) := rfl
theorem f186_34 : zF 186 34 = some (.i2l, 1, [], 0) := rfl
theorem f186_35 : zF 186 35 = some (.ldc2_w 175, 3, [], 97) := rfl
theorem f186_38 : zF 186 38 = some (.ldc2_w 177, 3, [], 102) := rfl
theorem f186_41 : zF 186 41 = some (.invokestatic 121, 3, [1, 151, 0, 3, 6, 0, 0], 0) := rfl
theorem f186_44 : zF 186 44 = some (.ifCond .eq 11, 3, [], 0) := rfl
theorem f186_47 : zF 186 47 = some (.aload_n 0, 1, [], 0) := rfl
theorem f186_48 : zF 186 48 = some (.invokevirtual 239, 3, [0, 185, 10, 1, 1, 0, 0], 0) := rfl
theorem f186_51 : zF 186 51 = some (.istore_n 1, 1, [], 0) := rfl
theorem f186_52 : zF 186 52 = some (.goto 122, 3, [], 0) := rfl
theorem f186_55 : zF 186 55 = some (.iload_n 2, 1, [], 0) := rfl
theorem f186_56 : zF 186 56 = some (.bipush 33, 2, [], 0) := rfl
theorem f186_58 : zF 186 58 = some (.if_icmp .ne 10, 3, [], 0) := rfl
theorem f186_61 : zF 186 61 = some (.aload_n 0, 1, [], 0) := rfl
theorem f186_62 : zF 186 62 = some (.invokevirtual 225, 3, [0, 181, 10, 1, 1, 0, 0], 0) := rfl
theorem f186_65 : zF 186 65 = some (.goto 109, 3, [], 0) := rfl
theorem f186_68 : zF 186 68 = some (.iload_n 2, 1, [], 0) := rfl
theorem f186_69 : zF 186 69 = some (.bipush 91, 2, [], 0) := rfl
theorem f186_71 : zF 186 71 = some (.if_icmp .ne 11, 3, [], 0) := rfl
theorem f186_74 : zF 186 74 = some (.aload_n 0, 1, [], 0) := rfl
theorem f186_75 : zF 186 75 = some (.invokevirtual 228, 3, [0, 183, 10, 1, 1, 0, 0], 0) := rfl
theorem f186_78 : zF 186 78 = some (.istore_n 1, 1, [], 0) := rfl
theorem f186_79 : zF 186 79 = some (.goto 95, 3, [], 0) := rfl
theorem f186_82 : zF 186 82 = some (.iload_n 2, 1, [], 0) := rfl
theorem f186_83 : zF 186 83 = some (.i2l, 1, [], 0) := rfl
theorem f186_84 : zF 186 84 = some (.ldc2_w 182, 3, [], 50) := rfl
theorem f186_87 : zF 186 87 = some (.ldc2_w 184, 3, [], 53) := rfl
theorem f186_90 : zF 186 90 = some (.invokestatic 121, 3, [1, 151, 0, 3, 6, 0, 0], 0) := rfl
theorem f186_93 : zF 186 93 = some (.ifCond .eq 32, 3, [], 0) := rfl
theorem f186_96 : zF 186 96 = some (.aload_n 0, 1, [], 0) := rfl
theorem f186_97 : zF 186 97 = some (.invokevirtual 225, 3, [0, 181, 10, 1, 1, 0, 0], 0) := rfl
theorem f186_100 : zF 186 100 = some (.aload_n 0, 1, [], 0) := rfl
theorem f186_101 : zF 186 101 = some (.invokevirtual 221, 3, [0, 180, 10, 1, 1, 0, 0], 0) := rfl
theorem f186_104 : zF 186 104 = some (.bipush 123, 2, [], 0) := rfl
theorem f186_106 : zF 186 106 = some (.if_icmp .ne 14, 3, [], 0) := rfl
theorem f186_109 : zF 186 109 = some (.aload_n 0, 1, [], 0) := rfl
theorem f186_110 : zF 186 110 = some (.invokevirtual 228, 3, [0, 183, 10, 1, 1, 0, 0], 0) := rfl
theorem f186_113 : zF 186 113 = some (.ifCond .eq 7, 3, [], 0) := rfl
theorem f186_116 : zF 186 116 = some (.iconst 1, 1, [], 0) := rfl
theorem f186_117 : zF 186 117 = some (.goto 4, 3, [], 0) := rfl
theorem f186_120 : zF 186 120 = some (.iconst 0, 1, [], 0) := rfl
theorem f186_121 : zF 186 121 = some (.istore_n 1, 1, [], 0) := rfl
theorem f186_122 : zF 186 122 = some (.goto 52, 3, [], 0) := rfl
theorem f186_125 : zF 186 125 = some (.aload_n 0, 1, [], 0) := rfl
theorem f186_126 : zF 186 126 = some (.getfield 131, 3, [10, 26, 0], 0) := rfl
theorem f186_129 : zF 186 129 = some (.ifCond .le 25, 3, [], 0) := rfl
theorem f186_132 : zF 186 132 = some (.iload_n 2, 1, [], 0) := rfl
theorem f186_133 : zF 186 133 = some (.aload_n 0, 1, [], 0) := rfl
theorem f186_134 : zF 186 134 = some (.getfield 69, 3, [10, 22, 2], 0) := rfl
theorem f186_137 : zF 186 137 = some (.aload_n 0, 1, [], 0) := rfl
theorem f186_138 : zF 186 138 = some (.getfield 131, 3, [10, 26, 0], 0) := rfl
theorem f186_141 : zF 186 141 = some (.iconst 1, 1, [], 0) := by decide +kernel
theorem f186_142 : zF 186 142 = some (.isub, 1, [], 0) := by decide +kernel
theorem f186_143 : zF 186 143 = some (.iaload, 1, [], 0) := by decide +kernel
theorem f186_144 : zF 186 144 = some (.invokestatic 242, 3, [1, 184, 0, 1, 1, 0, 0], 0) := by decide +kernel
theorem f186_147 : zF 186 147 = some (.if_icmp .ne 7, 3, [], 0) := by decide +kernel
theorem f186_150 : zF 186 150 = some (.iconst 1, 1, [], 0) := by decide +kernel
theorem f186_151 : zF 186 151 = some (.goto 4, 3, [], 0) := by decide +kernel
theorem f186_154 : zF 186 154 = some (.iconst 0, 1, [], 0) := by decide +kernel
theorem f186_155 : zF 186 155 = some (.istore_n 1, 1, [], 0) := by decide +kernel
theorem f186_156 : zF 186 156 = some (.iload_n 1, 1, [], 0) := by decide +kernel
theorem f186_157 : zF 186 157 = some (.ifCond .eq 17, 3, [], 0) := by decide +kernel
theorem f186_160 : zF 186 160 = some (.aload_n 0, 1, [], 0) := by decide +kernel
theorem f186_161 : zF 186 161 = some (.invokevirtual 225, 3, [0, 181, 10, 1, 1, 0, 0], 0) := by decide +kernel
theorem f186_164 : zF 186 164 = some (.aload_n 0, 1, [], 0) := by decide +kernel
theorem f186_165 : zF 186 165 = some (.dup, 1, [], 0) := by decide +kernel
theorem f186_166 : zF 186 166 = some (.getfield 131, 3, [10, 26, 0], 0) := by decide +kernel
theorem f186_169 : zF 186 169 = some (.iconst 1, 1, [], 0) := by decide +kernel
theorem f186_170 : zF 186 170 = some (.isub, 1, [], 0) := by decide +kernel
theorem f186_171 : zF 186 171 = some (.putfield 131, 3, [10, 26, 0], 0) := by decide +kernel
theorem f186_174 : zF 186 174 = some (.goto (-157), 3, [], 0) := by decide +kernel
theorem f186_177 : zF 186 177 = some (.iload_n 1, 1, [], 0) := by decide +kernel
theorem f186_178 : zF 186 178 = some (.ifCond .eq 14, 3, [], 0) := by decide +kernel
theorem f186_181 : zF 186 181 = some (.aload_n 0, 1, [], 0) := by decide +kernel
theorem f186_182 : zF 186 182 = some (.getfield 131, 3, [10, 26, 0], 0) := by decide +kernel
theorem f186_185 : zF 186 185 = some (.ifCond .ne 7, 3, [], 0) := by decide +kernel
theorem f186_188 : zF 186 188 = some (.iconst 1, 1, [], 0) := by decide +kernel
theorem f186_189 : zF 186 189 = some (.goto 4, 3, [], 0) := by decide +kernel
theorem f186_192 : zF 186 192 = some (.iconst 0, 1, [], 0) := by decide +kernel
theorem f186_193 : zF 186 193 = some (.ireturn, 1, [1], 0) := by decide +kernel
theorem f187_0 : zF 187 0 = some (.aload_n 0, 1, [], 0) := rfl
theorem f187_1 : zF 187 1 = some (.invokevirtual 115, 3, [0, 169, 10, 1, 2, 0, 0], 0) := rfl
theorem f187_4 : zF 187 4 = some (.istore_n 1, 1, [], 0) := rfl
theorem f187_5 : zF 187 5 = some (.iload_n 1, 1, [], 0) := rfl
theorem f187_6 : zF 187 6 = some (.ifCond .eq 9, 3, [], 0) := rfl
theorem f187_9 : zF 187 9 = some (.aload_n 0, 1, [], 0) := rfl
theorem f187_10 : zF 187 10 = some (.invokevirtual 246, 3, [0, 175, 10, 1, 2, 0, 0], 0) := rfl
theorem f187_13 : zF 187 13 = some (.iconst 1, 1, [], 0) := rfl
theorem f187_14 : zF 187 14 = some (.ireturn, 1, [1], 0) := rfl
theorem f187_15 : zF 187 15 = some (.aload_n 0, 1, [], 0) := rfl
theorem f187_16 : zF 187 16 = some (.invokevirtual 249, 3, [0, 176, 10, 1, 2, 0, 0], 0) := rfl
theorem f187_19 : zF 187 19 = some (.aload_n 0, 1, [], 0) := rfl
theorem f187_20 : zF 187 20 = some (.invokevirtual 115, 3, [0, 169, 10, 1, 2, 0, 0], 0) := rfl
theorem f187_23 : zF 187 23 = some (.ifCond .eq 11, 3, [], 0) := rfl
theorem f187_26 : zF 187 26 = some (.iload_n 1, 1, [], 0) := rfl
theorem f187_27 : zF 187 27 = some (.ifCond .eq 7, 3, [], 0) := rfl
theorem f187_30 : zF 187 30 = some (.iconst 1, 1, [], 0) := rfl
theorem f187_31 : zF 187 31 = some (.goto 4, 3, [], 0) := rfl
theorem f187_34 : zF 187 34 = some (.iconst 0, 1, [], 0) := rfl
theorem f187_35 : zF 187 35 = some (.ireturn, 1, [1], 0) := rfl
theorem f188_0 : zF 188 0 = some (.iload_n 1, 1, [], 0) := rfl
theorem f188_1 : zF 188 1 = some (.i2l, 1, [], 0) := rfl
theorem f188_2 : zF 188 2 = some (.invokestatic 192, 3, [1, 154, 0, 1, 2, 0, 0], 0) := rfl
theorem f188_5 : zF 188 5 = some (.ifCond .ne 5, 3, [], 0) := rfl
theorem f188_8 : zF 188 8 = some (.iconst (-1), 1, [], 0) := rfl
theorem f188_9 : zF 188 9 = some (.ireturn, 1, [0], 0) := rfl
theorem f188_10 : zF 188 10 = some (.aload_n 0, 1, [], 0) := rfl
theorem f188_11 : zF 188 11 = some (.invokevirtual 252, 3, [0, 186, 10, 1, 3, 0, 0], 0) := rfl
theorem f188_14 : zF 188 14 = some (.istore_n 2, 1, [], 0) := rfl
theorem f188_15 : zF 188 15 = some (.aload_n 0, 1, [], 0) := rfl
theorem f188_16 : zF 188 16 = some (.invokevirtual 221, 3, [0, 180, 10, 1, 1, 0, 0], 0) := rfl
theorem f188_19 : zF 188 19 = some (.pop, 1, [], 0) := rfl
theorem f188_20 : zF 188 20 = some (.bipush (-20), 2, [], 0) := rfl
theorem f188_22 : zF 188 22 = some (.aload_n 0, 1, [], 0) := rfl
theorem f188_23 : zF 188 23 = some (.getfield 215, 3, [10, 34, 0], 0) := rfl
theorem f188_26 : zF 188 26 = some (.isub, 1, [], 0) := rfl
theorem f188_27 : zF 188 27 = some (.istore_n 3, 1, [], 0) := rfl
theorem f188_28 : zF 188 28 = some (.aload_n 0, 1, [], 0) := rfl
theorem f188_29 : zF 188 29 = some (.iconst 0, 1, [], 0) := rfl
theorem f188_30 : zF 188 30 = some (.putfield 212, 3, [10, 7, 0], 0) := rfl
theorem f188_33 : zF 188 33 = some (.aload_n 0, 1, [], 0) := rfl
theorem f188_34 : zF 188 34 = some (.invokevirtual 255, 3, [0, 177, 10, 1, 3, 0, 0], 0) := rfl
theorem f188_37 : zF 188 37 = some (.ifCond .eq 6, 3, [], 0) := rfl
theorem f188_40 : zF 188 40 = some (.bipush (-2), 2, [], 0) := rfl
theorem f188_42 : zF 188 42 = some (.ireturn, 1, [0], 0) := rfl
theorem f188_43 : zF 188 43 = some (.iload_n 2, 1, [], 0) := rfl
theorem f188_44 : zF 188 44 = some (.ifCond .ne 5, 3, [], 0) := rfl
theorem f188_47 : zF 188 47 = some (.iload_n 3, 1, [], 0) := rfl
theorem f188_48 : zF 188 48 = some (.ireturn, 1, [0], 0) := rfl
theorem f188_49 : zF 188 49 = some (.aload_n 0, 1, [], 0) := rfl
theorem f188_50 : zF 188 50 = some (.invokevirtual 258, 3, [0, 174, 10, 1, 2, 0, 0], 0) := rfl
theorem f188_53 : zF 188 53 = some (.aload_n 0, 1, [], 0) := rfl
theorem f188_54 : zF 188 54 = some (.getfield 7, 3, [10, 0, 2], 0) := rfl
theorem f188_57 : zF 188 57 = some (.bipush 26, 2, [], 0) := rfl
theorem f188_59 : zF 188 59 = some (.bipush 61, 2, [], 0) := rfl
theorem f188_61 : zF 188 61 = some (.iload_n 1, 1, [], 0) := rfl
theorem f188_62 : zF 188 62 = some (.imul, 1, [], 0) := rfl
theorem f188_63 : zF 188 63 = some (.iadd, 1, [], 0) := rfl
theorem f188_64 : zF 188 64 = some (.aload_n 0, 1, [], 0) := rfl
theorem f188_65 : zF 188 65 = some (.getfield 218, 3, [10, 36, 0], 0) := rfl
theorem f188_68 : zF 188 68 = some (.iastore, 1, [], 0) := rfl
theorem f188_69 : zF 188 69 = some (.iconst 0, 1, [], 0) := rfl
theorem f188_70 : zF 188 70 = some (.istore 4, 2, [], 0) := rfl
theorem f188_72 : zF 188 72 = some (.iload 4, 2, [], 0) := rfl
theorem f188_74 : zF 188 74 = some (.bipush 60, 2, [], 0) := rfl
theorem f188_76 : zF 188 76 = some (.if_icmp .ge 46, 3, [], 0) := rfl
theorem f188_79 : zF 188 79 = some (.aload_n 0, 1, [], 0) := rfl
theorem f188_80 : zF 188 80 = some (.getfield 7, 3, [10, 0, 2], 0) := rfl
theorem f188_83 : zF 188 83 = some (.bipush 26, 2, [], 0) := rfl
theorem f188_85 : zF 188 85 = some (.bipush 61, 2, [], 0) := rfl
theorem f188_87 : zF 188 87 = some (.iload_n 1, 1, [], 0) := rfl
theorem f188_88 : zF 188 88 = some (.imul, 1, [], 0) := rfl
theorem f188_89 : zF 188 89 = some (.iadd, 1, [], 0) := rfl
theorem f188_90 : zF 188 90 = some (.iconst 1, 1, [], 0) := rfl
theorem f188_91 : zF 188 91 = some (.iadd, 1, [], 0) := rfl
theorem f188_92 : zF 188 92 = some (.iload 4, 2, [], 0) := rfl
theorem f188_94 : zF 188 94 = some (.iadd, 1, [], 0) := rfl
theorem f188_95 : zF 188 95 = some (.iload 4, 2, [], 0) := rfl
theorem f188_97 : zF 188 97 = some (.aload_n 0, 1, [], 0) := rfl
theorem f188_98 : zF 188 98 = some (.getfield 218, 3, [10, 36, 0], 0) := rfl
theorem f188_101 : zF 188 101 = some (.if_icmp .ge 13, 3, [], 0) := rfl
theorem f188_104 : zF 188 104 = some (.aload_n 0, 1, [], 0) := rfl
theorem f188_105 : zF 188 105 = some (.getfield 93, 3, [10, 35, 2], 0) := rfl
theorem f188_108 : zF 188 108 = some (.iload 4, 2, [], 0) := rfl
theorem f188_110 : zF 188 110 = some (.iaload, 1, [], 0) := rfl
theorem f188_111 : zF 188 111 = some (.goto 4, 3, [], 0) := rfl
theorem f188_114 : zF 188 114 = some (.iconst 0, 1, [], 0) := rfl
theorem f188_115 : zF 188 115 = some (.iastore, 1, [], 0) := rfl
theorem f188_116 : zF 188 116 = some (.iinc 4 1, 3, [], 0) := rfl
theorem f188_119 : zF 188 119 = some (.goto (-47), 3, [], 0) := rfl
theorem f188_122 : zF 188 122 = some (.aload_n 0, 1, [], 0) := by decide +kernel
theorem f188_123 : zF 188 123 = some (.iload_n 1, 1, [], 0) := by decide +kernel
theorem f188_124 : zF 188 124 = some (.invokevirtual 261, 3, [0, 178, 10, 2, 2, 0, 0], 0) := by decide +kernel
theorem f188_127 : zF 188 127 = some (.aload_n 0, 1, [], 0) := by decide +kernel
theorem f188_128 : zF 188 128 = some (.invokevirtual 264, 3, [0, 187, 10, 1, 2, 0, 0], 0) := by decide +kernel
theorem f188_131 : zF 188 131 = some (.ifCond .eq 12, 3, [], 0) := by decide +kernel
theorem f188_134 : zF 188 134 = some (.aload_n 0, 1, [], 0) := by decide +kernel
theorem f188_135 : zF 188 135 = some (.getfield 51, 3, [10, 15, 2], 0) := by decide +kernel
theorem f188_138 : zF 188 138 = some (.iload_n 1, 1, [], 0) := by decide +kernel
theorem f188_139 : zF 188 139 = some (.iaload, 1, [], 0) := by decide +kernel
theorem f188_140 : zF 188 140 = some (.goto 5, 3, [], 0) := by decide +kernel
theorem f188_143 : zF 188 143 = some (.bipush (-3), 2, [], 0) := by decide +kernel
theorem f188_145 : zF 188 145 = some (.ireturn, 1, [0], 0) := by decide +kernel
theorem f189_0 : zF 189 0 = some (.iload_n 1, 1, [], 0) := rfl
theorem f189_1 : zF 189 1 = some (.invokestatic 267, 3, [1, 155, 0, 1, 1, 0, 0], 0) := rfl
theorem f189_4 : zF 189 4 = some (.ifCond .ne 5, 3, [], 0) := rfl
theorem f189_7 : zF 189 7 = some (.iconst (-1), 1, [], 0) := rfl
theorem f189_8 : zF 189 8 = some (.ireturn, 1, [0], 0) := rfl
theorem f189_9 : zF 189 9 = some (.aload_n 0, 1, [], 0) := rfl
theorem f189_10 : zF 189 10 = some (.invokevirtual 255, 3, [0, 177, 10, 1, 3, 0, 0], 0) := rfl
theorem f189_13 : zF 189 13 = some (.ifCond .eq 6, 3, [], 0) := rfl
theorem f189_16 : zF 189 16 = some (.bipush (-2), 2, [], 0) := rfl
theorem f189_18 : zF 189 18 = some (.ireturn, 1, [0], 0) := rfl
theorem f189_19 : zF 189 19 = some (.aload_n 0, 1, [], 0) := rfl
theorem f189_20 : zF 189 20 = some (.invokevirtual 258, 3, [0, 174, 10, 1, 2, 0, 0], 0) := rfl
theorem f189_23 : zF 189 23 = some (.aload_n 0, 1, [], 0) := rfl
theorem f189_24 : zF 189 24 = some (.getfield 7, 3, [10, 0, 2], 0) := rfl
theorem f189_27 : zF 189 27 = some (.iconst 0, 1, [], 0) := rfl
theorem f189_28 : zF 189 28 = some (.dup2, 1, [], 0) := rfl
theorem f189_29 : zF 189 29 = some (.iaload, 1, [], 0) := rfl
theorem f189_30 : zF 189 30 = some (.iconst 1, 1, [], 0) := rfl
theorem f189_31 : zF 189 31 = some (.iload_n 1, 1, [], 0) := rfl
theorem f189_32 : zF 189 32 = some (.ishl, 1, [], 0) := rfl
theorem f189_33 : zF 189 33 = some (.ixor, 1, [], 0) := rfl
theorem f189_34 : zF 189 34 = some (.iastore, 1, [], 0) := rfl
theorem f189_35 : zF 189 35 = some (.iconst 0, 1, [], 0) := rfl
theorem f189_36 : zF 189 36 = some (.istore_n 2, 1, [], 0) := rfl
theorem f189_37 : zF 189 37 = some (.iload_n 2, 1, [], 0) := rfl
theorem f189_38 : zF 189 38 = some (.iconst 4, 1, [], 0) := rfl
theorem f189_39 : zF 189 39 = some (.if_icmp .ge 14, 3, [], 0) := rfl
theorem f189_42 : zF 189 42 = some (.aload_n 0, 1, [], 0) := rfl
theorem f189_43 : zF 189 43 = some (.iload_n 2, 1, [], 0) := rfl
theorem f189_44 : zF 189 44 = some (.invokevirtual 261, 3, [0, 178, 10, 2, 2, 0, 0], 0) := rfl
theorem f189_47 : zF 189 47 = some (.iinc 2 1, 3, [], 0) := rfl
theorem f189_50 : zF 189 50 = some (.goto (-13), 3, [], 0) := rfl
theorem f189_53 : zF 189 53 = some (.aload_n 0, 1, [], 0) := rfl
theorem f189_54 : zF 189 54 = some (.invokevirtual 264, 3, [0, 187, 10, 1, 2, 0, 0], 0) := rfl
theorem f189_57 : zF 189 57 = some (.ifCond .ne 8, 3, [], 0) := rfl
theorem f189_60 : zF 189 60 = some (.bipush (-3), 2, [], 0) := rfl
theorem f189_62 : zF 189 62 = some (.goto 21, 3, [], 0) := rfl
theorem f189_65 : zF 189 65 = some (.aload_n 0, 1, [], 0) := rfl
theorem f189_66 : zF 189 66 = some (.getfield 7, 3, [10, 0, 2], 0) := rfl
theorem f189_69 : zF 189 69 = some (.iconst 0, 1, [], 0) := rfl
theorem f189_70 : zF 189 70 = some (.iaload, 1, [], 0) := rfl
theorem f189_71 : zF 189 71 = some (.iload_n 1, 1, [], 0) := rfl
theorem f189_72 : zF 189 72 = some (.invokestatic 165, 3, [1, 152, 0, 2, 2, 0, 0], 0) := rfl
theorem f189_75 : zF 189 75 = some (.ifCond .eq 7, 3, [], 0) := rfl
theorem f189_78 : zF 189 78 = some (.iconst 1, 1, [], 0) := rfl
theorem f189_79 : zF 189 79 = some (.goto 4, 3, [], 0) := rfl
theorem f189_82 : zF 189 82 = some (.iconst 0, 1, [], 0) := rfl
theorem f189_83 : zF 189 83 = some (.ireturn, 1, [0], 0) := rfl
theorem f190_0 : zF 190 0 = some (.iconst 0, 1, [], 0) := rfl
theorem f190_1 : zF 190 1 = some (.istore 4, 2, [], 0) := rfl
theorem f190_3 : zF 190 3 = some (.iload 4, 2, [], 0) := rfl
theorem f190_5 : zF 190 5 = some (.iload_n 2, 1, [], 0) := rfl
theorem f190_6 : zF 190 6 = some (.if_icmp .ge 40, 3, [], 0) := rfl
theorem f190_9 : zF 190 9 = some (.aload_n 0, 1, [], 0) := rfl
theorem f190_10 : zF 190 10 = some (.getfield 7, 3, [10, 0, 2], 0) := rfl
theorem f190_13 : zF 190 13 = some (.iconst 4, 1, [], 0) := rfl
theorem f190_14 : zF 190 14 = some (.aload_n 0, 1, [], 0) := rfl
theorem f190_15 : zF 190 15 = some (.iload_n 1, 1, [], 0) := rfl
theorem f190_16 : zF 190 16 = some (.iload 4, 2, [], 0) := rfl
theorem f190_18 : zF 190 18 = some (.invokevirtual 199, 3, [0, 171, 10, 3, 3, 0, 0], 0) := rfl
theorem f190_21 : zF 190 21 = some (.iadd, 1, [], 0) := rfl
theorem f190_22 : zF 190 22 = some (.dup2, 1, [], 0) := rfl
theorem f190_23 : zF 190 23 = some (.iaload, 1, [], 0) := rfl
theorem f190_24 : zF 190 24 = some (.iload_n 3, 1, [], 0) := rfl
theorem f190_25 : zF 190 25 = some (.aload_n 0, 1, [], 0) := rfl
theorem f190_26 : zF 190 26 = some (.getfield 48, 3, [10, 14, 2], 0) := rfl
theorem f190_29 : zF 190 29 = some (.bipush 30, 2, [], 0) := rfl
theorem f190_31 : zF 190 31 = some (.iload_n 1, 1, [], 0) := rfl
theorem f190_32 : zF 190 32 = some (.imul, 1, [], 0) := rfl
theorem f190_33 : zF 190 33 = some (.iload 4, 2, [], 0) := rfl
theorem f190_35 : zF 190 35 = some (.iadd, 1, [], 0) := rfl
theorem f190_36 : zF 190 36 = some (.iaload, 1, [], 0) := rfl
theorem f190_37 : zF 190 37 = some (.imul, 1, [], 0) := rfl
theorem f190_38 : zF 190 38 = some (.iadd, 1, [], 0) := rfl
theorem f190_39 : zF 190 39 = some (.iastore, 1, [], 0) := rfl
theorem f190_40 : zF 190 40 = some (.iinc 4 1, 3, [], 0) := rfl
theorem f190_43 : zF 190 43 = some (.goto (-40), 3, [], 0) := rfl
theorem f190_46 : zF 190 46 = some (.return_, 1, [], 0) := rfl
theorem f191_0 : zF 191 0 = some (.iload_n 1, 1, [], 0) := rfl
theorem f191_1 : zF 191 1 = some (.i2l, 1, [], 0) := rfl
theorem f191_2 : zF 191 2 = some (.invokestatic 192, 3, [1, 154, 0, 1, 2, 0, 0], 0) := rfl
theorem f191_5 : zF 191 5 = some (.ifCond .ne 5, 3, [], 0) := rfl
theorem f191_8 : zF 191 8 = some (.iconst (-1), 1, [], 0) := rfl
theorem f191_9 : zF 191 9 = some (.ireturn, 1, [0], 0) := rfl
theorem f191_10 : zF 191 10 = some (.aload_n 0, 1, [], 0) := rfl
theorem f191_11 : zF 191 11 = some (.invokevirtual 255, 3, [0, 177, 10, 1, 3, 0, 0], 0) := rfl
theorem f191_14 : zF 191 14 = some (.ifCond .eq 6, 3, [], 0) := rfl
theorem f191_17 : zF 191 17 = some (.bipush (-2), 2, [], 0) := rfl
theorem f191_19 : zF 191 19 = some (.ireturn, 1, [0], 0) := rfl
theorem f191_20 : zF 191 20 = some (.aload_n 0, 1, [], 0) := rfl
theorem f191_21 : zF 191 21 = some (.invokevirtual 258, 3, [0, 174, 10, 1, 2, 0, 0], 0) := rfl
theorem f191_24 : zF 191 24 = some (.aload_n 0, 1, [], 0) := rfl
theorem f191_25 : zF 191 25 = some (.invokevirtual 246, 3, [0, 175, 10, 1, 2, 0, 0], 0) := rfl
theorem f191_28 : zF 191 28 = some (.aload_n 0, 1, [], 0) := rfl
theorem f191_29 : zF 191 29 = some (.iload_n 1, 1, [], 0) := rfl
theorem f191_30 : zF 191 30 = some (.aload_n 0, 1, [], 0) := rfl
theorem f191_31 : zF 191 31 = some (.getfield 51, 3, [10, 15, 2], 0) := rfl
theorem f191_34 : zF 191 34 = some (.iload_n 1, 1, [], 0) := rfl
theorem f191_35 : zF 191 35 = some (.iaload, 1, [], 0) := rfl
theorem f191_36 : zF 191 36 = some (.iconst 1, 1, [], 0) := rfl
theorem f191_37 : zF 191 37 = some (.invokevirtual 271, 3, [0, 190, 10, 4, 5, 0, 0], 0) := rfl
theorem f191_40 : zF 191 40 = some (.aload_n 0, 1, [], 0) := rfl
theorem f191_41 : zF 191 41 = some (.getfield 51, 3, [10, 15, 2], 0) := rfl
theorem f191_44 : zF 191 44 = some (.iload_n 1, 1, [], 0) := rfl
theorem f191_45 : zF 191 45 = some (.iaload, 1, [], 0) := rfl
theorem f191_46 : zF 191 46 = some (.ireturn, 1, [0], 0) := rfl
theorem f192_0 : zF 192 0 = some (.iconst 0, 1, [], 0) := rfl
theorem f192_1 : zF 192 1 = some (.istore 4, 2, [], 0) := rfl
theorem f192_3 : zF 192 3 = some (.iconst 0, 1, [], 0) := rfl
theorem f192_4 : zF 192 4 = some (.istore 5, 2, [], 0) := rfl
theorem f192_6 : zF 192 6 = some (.iload 5, 2, [], 0) := rfl
theorem f192_8 : zF 192 8 = some (.iload_n 2, 1, [], 0) := rfl
theorem f192_9 : zF 192 9 = some (.if_icmp .ge 59, 3, [], 0) := rfl
theorem f192_12 : zF 192 12 = some (.iload 4, 2, [], 0) := rfl
theorem f192_14 : zF 192 14 = some (.aload_n 0, 1, [], 0) := rfl
theorem f192_15 : zF 192 15 = some (.iload_n 1, 1, [], 0) := rfl
theorem f192_16 : zF 192 16 = some (.iload 5, 2, [], 0) := rfl
theorem f192_18 : zF 192 18 = some (.invokevirtual 199, 3, [0, 171, 10, 3, 3, 0, 0], 0) := rfl
theorem f192_21 : zF 192 21 = some (.iload_n 3, 1, [], 0) := rfl
theorem f192_22 : zF 192 22 = some (.if_icmp .eq 7, 3, [], 0) := rfl
theorem f192_25 : zF 192 25 = some (.iconst 0, 1, [], 0) := rfl
theorem f192_26 : zF 192 26 = some (.goto 33, 3, [], 0) := rfl
theorem f192_29 : zF 192 29 = some (.aload_n 0, 1, [], 0) := rfl
theorem f192_30 : zF 192 30 = some (.iload_n 1, 1, [], 0) := rfl
theorem f192_31 : zF 192 31 = some (.iload 5, 2, [], 0) := rfl
theorem f192_33 : zF 192 33 = some (.invokevirtual 196, 3, [0, 170, 10, 3, 3, 0, 0], 0) := rfl
theorem f192_36 : zF 192 36 = some (.ifCond .ne 7, 3, [], 0) := rfl
theorem f192_39 : zF 192 39 = some (.iconst 1, 1, [], 0) := rfl
theorem f192_40 : zF 192 40 = some (.goto 19, 3, [], 0) := rfl
theorem f192_43 : zF 192 43 = some (.aload_n 0, 1, [], 0) := rfl
theorem f192_44 : zF 192 44 = some (.iload_n 1, 1, [], 0) := rfl
theorem f192_45 : zF 192 45 = some (.iload 5, 2, [], 0) := rfl
theorem f192_47 : zF 192 47 = some (.invokevirtual 196, 3, [0, 170, 10, 3, 3, 0, 0], 0) := rfl
theorem f192_50 : zF 192 50 = some (.iconst 1, 1, [], 0) := rfl
theorem f192_51 : zF 192 51 = some (.if_icmp .ne 7, 3, [], 0) := rfl
theorem f192_54 : zF 192 54 = some (.iconst (-1), 1, [], 0) := rfl
theorem f192_55 : zF 192 55 = some (.goto 4, 3, [], 0) := rfl
theorem f192_58 : zF 192 58 = some (.iconst 0, 1, [], 0) := rfl
theorem f192_59 : zF 192 59 = some (.iadd, 1, [], 0) := rfl
theorem f192_60 : zF 192 60 = some (.istore 4, 2, [], 0) := rfl
theorem f192_62 : zF 192 62 = some (.iinc 5 1, 3, [], 0) := rfl
theorem f192_65 : zF 192 65 = some (.goto (-59), 3, [], 0) := rfl
theorem f192_68 : zF 192 68 = some (.iload 4, 2, [], 0) := rfl
theorem f192_70 : zF 192 70 = some (.ireturn, 1, [0], 0) := rfl
theorem f193_0 : zF 193 0 = some (.iconst 0, 1, [], 0) := rfl
theorem f193_1 : zF 193 1 = some (.istore_n 3, 1, [], 0) := rfl
theorem f193_2 : zF 193 2 = some (.iconst 0, 1, [], 0) := rfl
theorem f193_3 : zF 193 3 = some (.istore 4, 2, [], 0) := rfl
theorem f193_5 : zF 193 5 = some (.iload 4, 2, [], 0) := rfl
theorem f193_7 : zF 193 7 = some (.bipush 6, 2, [], 0) := rfl
theorem f193_9 : zF 193 9 = some (.if_icmp .ge 31, 3, [], 0) := rfl
theorem f193_12 : zF 193 12 = some (.iload_n 3, 1, [], 0) := rfl
theorem f193_13 : zF 193 13 = some (.aload_n 0, 1, [], 0) := rfl
theorem f193_14 : zF 193 14 = some (.iload_n 1, 1, [], 0) := rfl
theorem f193_15 : zF 193 15 = some (.iload_n 2, 1, [], 0) := rfl
theorem f193_16 : zF 193 16 = some (.iload 4, 2, [], 0) := rfl
theorem f193_18 : zF 193 18 = some (.invokevirtual 274, 3, [0, 192, 10, 4, 6, 0, 0], 0) := rfl
theorem f193_21 : zF 193 21 = some (.ifCond .le 10, 3, [], 0) := rfl
theorem f193_24 : zF 193 24 = some (.iconst 1, 1, [], 0) := rfl
theorem f193_25 : zF 193 25 = some (.iload 4, 2, [], 0) := rfl
theorem f193_27 : zF 193 27 = some (.ishl, 1, [], 0) := rfl
theorem f193_28 : zF 193 28 = some (.goto 4, 3, [], 0) := rfl
theorem f193_31 : zF 193 31 = some (.iconst 0, 1, [], 0) := rfl
theorem f193_32 : zF 193 32 = some (.ior, 1, [], 0) := rfl
theorem f193_33 : zF 193 33 = some (.istore_n 3, 1, [], 0) := rfl
theorem f193_34 : zF 193 34 = some (.iinc 4 1, 3, [], 0) := rfl
theorem f193_37 : zF 193 37 = some (.goto (-32), 3, [], 0) := rfl
theorem f193_40 : zF 193 40 = some (.iload_n 3, 1, [], 0) := rfl
theorem f193_41 : zF 193 41 = some (.ireturn, 1, [0], 0) := rfl
theorem f194_0 : zF 194 0 = some (.bipush (-4), 2, [], 0) := rfl
theorem f194_2 : zF 194 2 = some (.istore_n 2, 1, [], 0) := rfl
theorem f194_3 : zF 194 3 = some (.iconst 0, 1, [], 0) := rfl
theorem f194_4 : zF 194 4 = some (.istore_n 3, 1, [], 0) := rfl
theorem f194_5 : zF 194 5 = some (.iload_n 3, 1, [], 0) := rfl
theorem f194_6 : zF 194 6 = some (.iconst 4, 1, [], 0) := rfl
theorem f194_7 : zF 194 7 = some (.if_icmp .ge 30, 3, [], 0) := rfl
theorem f194_10 : zF 194 10 = some (.aload_n 0, 1, [], 0) := rfl
theorem f194_11 : zF 194 11 = some (.iload_n 3, 1, [], 0) := rfl
theorem f194_12 : zF 194 12 = some (.aload_n 0, 1, [], 0) := rfl
theorem f194_13 : zF 194 13 = some (.iload_n 3, 1, [], 0) := rfl
theorem f194_14 : zF 194 14 = some (.iconst 1, 1, [], 0) := rfl
theorem f194_15 : zF 194 15 = some (.invokevirtual 205, 3, [0, 156, 10, 3, 3, 0, 0], 0) := rfl
theorem f194_18 : zF 194 18 = some (.iload_n 1, 1, [], 0) := rfl
theorem f194_19 : zF 194 19 = some (.invokevirtual 274, 3, [0, 192, 10, 4, 6, 0, 0], 0) := rfl
theorem f194_22 : zF 194 22 = some (.ifCond .le 7, 3, [], 0) := rfl
theorem f194_25 : zF 194 25 = some (.iload_n 3, 1, [], 0) := rfl
theorem f194_26 : zF 194 26 = some (.goto 4, 3, [], 0) := rfl
theorem f194_29 : zF 194 29 = some (.iload_n 2, 1, [], 0) := rfl
theorem f194_30 : zF 194 30 = some (.istore_n 2, 1, [], 0) := rfl
theorem f194_31 : zF 194 31 = some (.iinc 3 1, 3, [], 0) := rfl
theorem f194_34 : zF 194 34 = some (.goto (-29), 3, [], 0) := rfl
theorem f194_37 : zF 194 37 = some (.iload_n 2, 1, [], 0) := rfl
theorem f194_38 : zF 194 38 = some (.ireturn, 1, [0], 0) := rfl
theorem f195_0 : zF 195 0 = some (.aload_n 0, 1, [], 0) := rfl
theorem f195_1 : zF 195 1 = some (.iload_n 1, 1, [], 0) := rfl
theorem f195_2 : zF 195 2 = some (.iconst 0, 1, [], 0) := rfl
theorem f195_3 : zF 195 3 = some (.invokevirtual 205, 3, [0, 156, 10, 3, 3, 0, 0], 0) := rfl
theorem f195_6 : zF 195 6 = some (.iconst 2, 1, [], 0) := rfl
theorem f195_7 : zF 195 7 = some (.if_icmp .ne 17, 3, [], 0) := rfl
theorem f195_10 : zF 195 10 = some (.aload_n 0, 1, [], 0) := rfl
theorem f195_11 : zF 195 11 = some (.iload_n 1, 1, [], 0) := rfl
theorem f195_12 : zF 195 12 = some (.aload_n 0, 1, [], 0) := rfl
theorem f195_13 : zF 195 13 = some (.iload_n 1, 1, [], 0) := rfl
theorem f195_14 : zF 195 14 = some (.iconst 1, 1, [], 0) := rfl
theorem f195_15 : zF 195 15 = some (.invokevirtual 205, 3, [0, 156, 10, 3, 3, 0, 0], 0) := rfl
theorem f195_18 : zF 195 18 = some (.invokevirtual 199, 3, [0, 171, 10, 3, 3, 0, 0], 0) := rfl
theorem f195_21 : zF 195 21 = some (.goto 5, 3, [], 0) := rfl
theorem f195_24 : zF 195 24 = some (.bipush (-4), 2, [], 0) := rfl
theorem f195_26 : zF 195 26 = some (.ireturn, 1, [0], 0) := rfl
theorem f196_0 : zF 196 0 = some (.aload_n 0, 1, [], 0) := rfl
theorem f196_1 : zF 196 1 = some (.iload_n 1, 1, [], 0) := rfl
theorem f196_2 : zF 196 2 = some (.invokevirtual 278, 3, [0, 195, 10, 2, 2, 0, 0], 0) := rfl
theorem f196_5 : zF 196 5 = some (.ifCond .ge 8, 3, [], 0) := rfl
theorem f196_8 : zF 196 8 = some (.bipush (-4), 2, [], 0) := rfl
theorem f196_10 : zF 196 10 = some (.goto 12, 3, [], 0) := rfl
theorem f196_13 : zF 196 13 = some (.aload_n 0, 1, [], 0) := rfl
theorem f196_14 : zF 196 14 = some (.aload_n 0, 1, [], 0) := rfl
theorem f196_15 : zF 196 15 = some (.iload_n 1, 1, [], 0) := rfl
theorem f196_16 : zF 196 16 = some (.invokevirtual 278, 3, [0, 195, 10, 2, 2, 0, 0], 0) := rfl
theorem f196_19 : zF 196 19 = some (.invokevirtual 281, 3, [0, 194, 10, 2, 4, 0, 0], 0) := rfl
theorem f196_22 : zF 196 22 = some (.ireturn, 1, [0], 0) := rfl
theorem f197_0 : zF 197 0 = some (.iconst 0, 1, [], 0) := rfl
theorem f197_1 : zF 197 1 = some (.istore_n 2, 1, [], 0) := rfl
theorem f197_2 : zF 197 2 = some (.iload_n 1, 1, [], 0) := rfl
theorem f197_3 : zF 197 3 = some (.istore_n 3, 1, [], 0) := rfl
theorem f197_4 : zF 197 4 = some (.iconst 0, 1, [], 0) := rfl
theorem f197_5 : zF 197 5 = some (.istore 4, 2, [], 0) := rfl
theorem f197_7 : zF 197 7 = some (.iload 4, 2, [], 0) := rfl
theorem f197_9 : zF 197 9 = some (.iconst 4, 1, [], 0) := rfl
theorem f197_10 : zF 197 10 = some (.if_icmp .ge 32, 3, [], 0) := rfl
theorem f197_13 : zF 197 13 = some (.iload_n 3, 1, [], 0) := rfl
theorem f197_14 : zF 197 14 = some (.ifCond .lt 28, 3, [], 0) := rfl
theorem f197_17 : zF 197 17 = some (.iload_n 2, 1, [], 0) := rfl
theorem f197_18 : zF 197 18 = some (.iconst 1, 1, [], 0) := rfl
theorem f197_19 : zF 197 19 = some (.iload_n 3, 1, [], 0) := rfl
theorem f197_20 : zF 197 20 = some (.ishl, 1, [], 0) := rfl
theorem f197_21 : zF 197 21 = some (.ior, 1, [], 0) := rfl
theorem f197_22 : zF 197 22 = some (.istore_n 2, 1, [], 0) := rfl
theorem f197_23 : zF 197 23 = some (.aload_n 0, 1, [], 0) := rfl
theorem f197_24 : zF 197 24 = some (.iload_n 3, 1, [], 0) := rfl
theorem f197_25 : zF 197 25 = some (.invokevirtual 284, 3, [0, 196, 10, 2, 2, 0, 0], 0) := rfl
theorem f197_28 : zF 197 28 = some (.istore_n 3, 1, [], 0) := rfl
theorem f197_29 : zF 197 29 = some (.iload_n 3, 1, [], 0) := rfl
theorem f197_30 : zF 197 30 = some (.iload_n 1, 1, [], 0) := rfl
theorem f197_31 : zF 197 31 = some (.if_icmp .ne 5, 3, [], 0) := rfl
theorem f197_34 : zF 197 34 = some (.iload_n 2, 1, [], 0) := rfl
theorem f197_35 : zF 197 35 = some (.ireturn, 1, [0], 0) := rfl
theorem f197_36 : zF 197 36 = some (.iinc 4 1, 3, [], 0) := rfl
theorem f197_39 : zF 197 39 = some (.goto (-32), 3, [], 0) := rfl
theorem f197_42 : zF 197 42 = some (.iconst 0, 1, [], 0) := rfl
theorem f197_43 : zF 197 43 = some (.ireturn, 1, [0], 0) := rfl
theorem f198_0 : zF 198 0 = some (.aload_n 0, 1, [], 0) := rfl
theorem f198_1 : zF 198 1 = some (.getfield 7, 3, [10, 0, 2], 0) := rfl
theorem f198_4 : zF 198 4 = some (.iconst 1, 1, [], 0) := rfl
theorem f198_5 : zF 198 5 = some (.iaload, 1, [], 0) := rfl
theorem f198_6 : zF 198 6 = some (.tableswitch 56 1 3 #[26, 34, 41], 26, [], 0) := rfl
theorem f198_32 : zF 198 32 = some (.aload_n 0, 1, [], 0) := rfl
theorem f198_33 : zF 198 33 = some (.iload_n 1, 1, [], 0) := rfl
theorem f198_34 : zF 198 34 = some (.iconst 2, 1, [], 0) := rfl
theorem f198_35 : zF 198 35 = some (.invokevirtual 205, 3, [0, 156, 10, 3, 3, 0, 0], 0) := rfl
theorem f198_38 : zF 198 38 = some (.ineg, 1, [], 0) := rfl
theorem f198_39 : zF 198 39 = some (.ireturn, 1, [0], 0) := rfl
theorem f198_40 : zF 198 40 = some (.aload_n 0, 1, [], 0) := rfl
theorem f198_41 : zF 198 41 = some (.iload_n 1, 1, [], 0) := rfl
theorem f198_42 : zF 198 42 = some (.iconst 1, 1, [], 0) := rfl
theorem f198_43 : zF 198 43 = some (.invokevirtual 205, 3, [0, 156, 10, 3, 3, 0, 0], 0) := rfl
theorem f198_46 : zF 198 46 = some (.ireturn, 1, [0], 0) := rfl
theorem f198_47 : zF 198 47 = some (.aload_n 0, 1, [], 0) := rfl
theorem f198_48 : zF 198 48 = some (.iload_n 1, 1, [], 0) := rfl
theorem f198_49 : zF 198 49 = some (.aload_n 0, 1, [], 0) := rfl
theorem f198_50 : zF 198 50 = some (.iload_n 1, 1, [], 0) := rfl
theorem f198_51 : zF 198 51 = some (.iconst 1, 1, [], 0) := rfl
theorem f198_52 : zF 198 52 = some (.invokevirtual 205, 3, [0, 156, 10, 3, 3, 0, 0], 0) := rfl
theorem f198_55 : zF 198 55 = some (.invokevirtual 287, 3, [0, 193, 10, 3, 5, 0, 0], 0) := rfl
theorem f198_58 : zF 198 58 = some (.invokestatic 290, 3, [1, 153, 0, 1, 3, 0, 0], 0) := rfl
theorem f198_61 : zF 198 61 = some (.ireturn, 1, [0], 0) := rfl
theorem f198_62 : zF 198 62 = some (.iload_n 1, 1, [], 0) := rfl
theorem f198_63 : zF 198 63 = some (.ineg, 1, [], 0) := rfl
theorem f198_64 : zF 198 64 = some (.ireturn, 1, [0], 0) := rfl
theorem f199_0 : zF 199 0 = some (.bipush (-4), 2, [], 0) := rfl
theorem f199_2 : zF 199 2 = some (.istore_n 2, 1, [], 0) := rfl
theorem f199_3 : zF 199 3 = some (.iconst 0, 1, [], 0) := rfl
theorem f199_4 : zF 199 4 = some (.istore_n 3, 1, [], 0) := rfl
theorem f199_5 : zF 199 5 = some (.iload_n 3, 1, [], 0) := rfl
theorem f199_6 : zF 199 6 = some (.iconst 4, 1, [], 0) := rfl
theorem f199_7 : zF 199 7 = some (.if_icmp .ge 40, 3, [], 0) := rfl
theorem f199_10 : zF 199 10 = some (.iload_n 1, 1, [], 0) := rfl
theorem f199_11 : zF 199 11 = some (.iload_n 3, 1, [], 0) := rfl
theorem f199_12 : zF 199 12 = some (.invokestatic 165, 3, [1, 152, 0, 2, 2, 0, 0], 0) := rfl
theorem f199_15 : zF 199 15 = some (.ifCond .eq 26, 3, [], 0) := rfl
theorem f199_18 : zF 199 18 = some (.iload_n 2, 1, [], 0) := rfl
theorem f199_19 : zF 199 19 = some (.ifCond .lt 16, 3, [], 0) := rfl
theorem f199_22 : zF 199 22 = some (.aload_n 0, 1, [], 0) := rfl
theorem f199_23 : zF 199 23 = some (.iload_n 3, 1, [], 0) := rfl
theorem f199_24 : zF 199 24 = some (.invokevirtual 293, 3, [0, 198, 10, 2, 2, 0, 0], 0) := rfl
theorem f199_27 : zF 199 27 = some (.aload_n 0, 1, [], 0) := rfl
theorem f199_28 : zF 199 28 = some (.iload_n 2, 1, [], 0) := rfl
theorem f199_29 : zF 199 29 = some (.invokevirtual 293, 3, [0, 198, 10, 2, 2, 0, 0], 0) := rfl
theorem f199_32 : zF 199 32 = some (.if_icmp .ge 7, 3, [], 0) := rfl
theorem f199_35 : zF 199 35 = some (.iload_n 3, 1, [], 0) := rfl
theorem f199_36 : zF 199 36 = some (.goto 4, 3, [], 0) := rfl
theorem f199_39 : zF 199 39 = some (.iload_n 2, 1, [], 0) := rfl
theorem f199_40 : zF 199 40 = some (.istore_n 2, 1, [], 0) := rfl
theorem f199_41 : zF 199 41 = some (.iinc 3 1, 3, [], 0) := rfl
theorem f199_44 : zF 199 44 = some (.goto (-39), 3, [], 0) := rfl
theorem f199_47 : zF 199 47 = some (.iload_n 2, 1, [], 0) := rfl
theorem f199_48 : zF 199 48 = some (.ireturn, 1, [0], 0) := rfl
theorem f200_0 : zF 200 0 = some (.aload_n 0, 1, [], 0) := rfl
theorem f200_1 : zF 200 1 = some (.iload_n 1, 1, [], 0) := rfl
theorem f200_2 : zF 200 2 = some (.aload_n 0, 1, [], 0) := rfl
theorem f200_3 : zF 200 3 = some (.iload_n 1, 1, [], 0) := rfl
theorem f200_4 : zF 200 4 = some (.iconst 1, 1, [], 0) := rfl
theorem f200_5 : zF 200 5 = some (.invokevirtual 205, 3, [0, 156, 10, 3, 3, 0, 0], 0) := rfl
theorem f200_8 : zF 200 8 = some (.iconst (-1), 1, [], 0) := rfl
theorem f200_9 : zF 200 9 = some (.invokevirtual 271, 3, [0, 190, 10, 4, 5, 0, 0], 0) := rfl
theorem f200_12 : zF 200 12 = some (.aload_n 0, 1, [], 0) := rfl
theorem f200_13 : zF 200 13 = some (.iload_n 1, 1, [], 0) := rfl
theorem f200_14 : zF 200 14 = some (.iconst 3, 1, [], 0) := rfl
theorem f200_15 : zF 200 15 = some (.aload_n 0, 1, [], 0) := rfl
theorem f200_16 : zF 200 16 = some (.iload_n 1, 1, [], 0) := rfl
theorem f200_17 : zF 200 17 = some (.iconst 3, 1, [], 0) := rfl
theorem f200_18 : zF 200 18 = some (.invokevirtual 205, 3, [0, 156, 10, 3, 3, 0, 0], 0) := rfl
theorem f200_21 : zF 200 21 = some (.iconst 1, 1, [], 0) := rfl
theorem f200_22 : zF 200 22 = some (.iadd, 1, [], 0) := rfl
theorem f200_23 : zF 200 23 = some (.invokevirtual 111, 3, [0, 157, 10, 4, 4, 0, 0], 0) := rfl
theorem f200_26 : zF 200 26 = some (.aload_n 0, 1, [], 0) := rfl
theorem f200_27 : zF 200 27 = some (.iload_n 1, 1, [], 0) := rfl
theorem f200_28 : zF 200 28 = some (.invokevirtual 261, 3, [0, 178, 10, 2, 2, 0, 0], 0) := rfl
theorem f200_31 : zF 200 31 = some (.return_, 1, [], 0) := rfl
theorem f201_0 : zF 201 0 = some (.aload_n 0, 1, [], 0) := rfl
theorem f201_1 : zF 201 1 = some (.iload_n 1, 1, [], 0) := rfl
theorem f201_2 : zF 201 2 = some (.iconst 0, 1, [], 0) := rfl
theorem f201_3 : zF 201 3 = some (.invokevirtual 205, 3, [0, 156, 10, 3, 3, 0, 0], 0) := rfl
theorem f201_6 : zF 201 6 = some (.iconst 3, 1, [], 0) := rfl
theorem f201_7 : zF 201 7 = some (.if_icmp .lt 7, 3, [], 0) := rfl
theorem f201_10 : zF 201 10 = some (.iconst 1, 1, [], 0) := rfl
theorem f201_11 : zF 201 11 = some (.goto 4, 3, [], 0) := rfl
theorem f201_14 : zF 201 14 = some (.iconst 0, 1, [], 0) := rfl
theorem f201_15 : zF 201 15 = some (.ireturn, 1, [1], 0) := rfl
theorem f202_0 : zF 202 0 = some (.aload_n 0, 1, [], 0) := rfl
theorem f202_1 : zF 202 1 = some (.iload_n 1, 1, [], 0) := rfl
theorem f202_2 : zF 202 2 = some (.iconst 0, 1, [], 0) := rfl
theorem f202_3 : zF 202 3 = some (.invokevirtual 205, 3, [0, 156, 10, 3, 3, 0, 0], 0) := rfl
theorem f202_6 : zF 202 6 = some (.ifCond .ne 25, 3, [], 0) := rfl
theorem f202_9 : zF 202 9 = some (.aload_n 0, 1, [], 0) := rfl
theorem f202_10 : zF 202 10 = some (.iload_n 1, 1, [], 0) := rfl
theorem f202_11 : zF 202 11 = some (.iconst 2, 1, [], 0) := rfl
theorem f202_12 : zF 202 12 = some (.aload_n 0, 1, [], 0) := rfl
theorem f202_13 : zF 202 13 = some (.getfield 7, 3, [10, 0, 2], 0) := rfl
theorem f202_16 : zF 202 16 = some (.iconst 2, 1, [], 0) := rfl
theorem f202_17 : zF 202 17 = some (.iaload, 1, [], 0) := rfl
theorem f202_18 : zF 202 18 = some (.invokevirtual 111, 3, [0, 157, 10, 4, 4, 0, 0], 0) := rfl
theorem f202_21 : zF 202 21 = some (.aload_n 0, 1, [], 0) := rfl
theorem f202_22 : zF 202 22 = some (.getfield 7, 3, [10, 0, 2], 0) := rfl
theorem f202_25 : zF 202 25 = some (.iconst 2, 1, [], 0) := rfl
theorem f202_26 : zF 202 26 = some (.dup2, 1, [], 0) := rfl
theorem f202_27 : zF 202 27 = some (.iaload, 1, [], 0) := rfl
theorem f202_28 : zF 202 28 = some (.iconst 1, 1, [], 0) := rfl
theorem f202_29 : zF 202 29 = some (.iadd, 1, [], 0) := rfl
theorem f202_30 : zF 202 30 = some (.iastore, 1, [], 0) := rfl
theorem f202_31 : zF 202 31 = some (.aload_n 0, 1, [], 0) := rfl
theorem f202_32 : zF 202 32 = some (.iload_n 1, 1, [], 0) := rfl
theorem f202_33 : zF 202 33 = some (.iconst 1, 1, [], 0) := rfl
theorem f202_34 : zF 202 34 = some (.invokevirtual 205, 3, [0, 156, 10, 3, 3, 0, 0], 0) := rfl
theorem f202_37 : zF 202 37 = some (.istore_n 2, 1, [], 0) := rfl
theorem f202_38 : zF 202 38 = some (.iload_n 2, 1, [], 0) := rfl
theorem f202_39 : zF 202 39 = some (.aload_n 0, 1, [], 0) := rfl
theorem f202_40 : zF 202 40 = some (.getfield 51, 3, [10, 15, 2], 0) := rfl
theorem f202_43 : zF 202 43 = some (.iload_n 1, 1, [], 0) := rfl
theorem f202_44 : zF 202 44 = some (.iaload, 1, [], 0) := rfl
theorem f202_45 : zF 202 45 = some (.if_icmp .ge 86, 3, [], 0) := rfl
theorem f202_48 : zF 202 48 = some (.aload_n 0, 1, [], 0) := rfl
theorem f202_49 : zF 202 49 = some (.iload_n 1, 1, [], 0) := rfl
theorem f202_50 : zF 202 50 = some (.iload_n 2, 1, [], 0) := rfl
theorem f202_51 : zF 202 51 = some (.invokevirtual 196, 3, [0, 170, 10, 3, 3, 0, 0], 0) := rfl
theorem f202_54 : zF 202 54 = some (.ifCond .ne 16, 3, [], 0) := rfl
theorem f202_57 : zF 202 57 = some (.aload_n 0, 1, [], 0) := rfl
theorem f202_58 : zF 202 58 = some (.aload_n 0, 1, [], 0) := rfl
theorem f202_59 : zF 202 59 = some (.iload_n 1, 1, [], 0) := rfl
theorem f202_60 : zF 202 60 = some (.iload_n 2, 1, [], 0) := rfl
theorem f202_61 : zF 202 61 = some (.invokevirtual 199, 3, [0, 171, 10, 3, 3, 0, 0], 0) := rfl
theorem f202_64 : zF 202 64 = some (.invokevirtual 281, 3, [0, 194, 10, 2, 4, 0, 0], 0) := rfl
theorem f202_67 : zF 202 67 = some (.goto 5, 3, [], 0) := rfl
theorem f202_70 : zF 202 70 = some (.bipush (-4), 2, [], 0) := rfl
theorem f202_72 : zF 202 72 = some (.istore_n 3, 1, [], 0) := rfl
theorem f202_73 : zF 202 73 = some (.iload_n 3, 1, [], 0) := rfl
theorem f202_74 : zF 202 74 = some (.ifCond .lt 14, 3, [], 0) := rfl
theorem f202_77 : zF 202 77 = some (.iload_n 3, 1, [], 0) := rfl
theorem f202_78 : zF 202 78 = some (.iload_n 1, 1, [], 0) := rfl
theorem f202_79 : zF 202 79 = some (.if_icmp .eq 9, 3, [], 0) := rfl
theorem f202_82 : zF 202 82 = some (.aload_n 0, 1, [], 0) := rfl
theorem f202_83 : zF 202 83 = some (.iload_n 1, 1, [], 0) := rfl
theorem f202_84 : zF 202 84 = some (.invokevirtual 296, 3, [0, 203, 10, 2, 4, 0, 0], 0) := rfl
theorem f202_87 : zF 202 87 = some (.ireturn, 1, [0], 0) := rfl
theorem f202_88 : zF 202 88 = some (.aload_n 0, 1, [], 0) := rfl
theorem f202_89 : zF 202 89 = some (.iload_n 1, 1, [], 0) := rfl
theorem f202_90 : zF 202 90 = some (.iconst 0, 1, [], 0) := rfl
theorem f202_91 : zF 202 91 = some (.iconst 1, 1, [], 0) := rfl
theorem f202_92 : zF 202 92 = some (.invokevirtual 111, 3, [0, 157, 10, 4, 4, 0, 0], 0) := rfl
theorem f202_95 : zF 202 95 = some (.aload_n 0, 1, [], 0) := rfl
theorem f202_96 : zF 202 96 = some (.iload_n 1, 1, [], 0) := rfl
theorem f202_97 : zF 202 97 = some (.iconst 1, 1, [], 0) := rfl
theorem f202_98 : zF 202 98 = some (.iload_n 2, 1, [], 0) := rfl
theorem f202_99 : zF 202 99 = some (.iconst 1, 1, [], 0) := rfl
theorem f202_100 : zF 202 100 = some (.iadd, 1, [], 0) := rfl
theorem f202_101 : zF 202 101 = some (.invokevirtual 111, 3, [0, 157, 10, 4, 4, 0, 0], 0) := rfl
theorem f202_104 : zF 202 104 = some (.aload_n 0, 1, [], 0) := rfl
theorem f202_105 : zF 202 105 = some (.getfield 7, 3, [10, 0, 2], 0) := rfl
theorem f202_108 : zF 202 108 = some (.iconst 4, 1, [], 0) := rfl
theorem f202_109 : zF 202 109 = some (.aload_n 0, 1, [], 0) := by decide +kernel
theorem f202_110 : zF 202 110 = some (.iload_n 1, 1, [], 0) := by decide +kernel
theorem f202_111 : zF 202 111 = some (.iload_n 2, 1, [], 0) := by decide +kernel
theorem f202_112 : zF 202 112 = some (.invokevirtual 199, 3, [0, 171, 10, 3, 3, 0, 0], 0) := by decide +kernel
theorem f202_115 : zF 202 115 = some (.iadd, 1, [], 0) := by decide +kernel
theorem f202_116 : zF 202 116 = some (.dup2, 1, [], 0) := by decide +kernel
theorem f202_117 : zF 202 117 = some (.iaload, 1, [], 0) := by decide +kernel
theorem f202_118 : zF 202 118 = some (.aload_n 0, 1, [], 0) := by decide +kernel
theorem f202_119 : zF 202 119 = some (.getfield 48, 3, [10, 14, 2], 0) := by decide +kernel
theorem f202_122 : zF 202 122 = some (.bipush 30, 2, [], 0) := by decide +kernel
theorem f202_124 : zF 202 124 = some (.iload_n 1, 1, [], 0) := by decide +kernel
theorem f202_125 : zF 202 125 = some (.imul, 1, [], 0) := by decide +kernel
theorem f202_126 : zF 202 126 = some (.iload_n 2, 1, [], 0) := by decide +kernel
theorem f202_127 : zF 202 127 = some (.iadd, 1, [], 0) := by decide +kernel
theorem f202_128 : zF 202 128 = some (.iaload, 1, [], 0) := by decide +kernel
theorem f202_129 : zF 202 129 = some (.iadd, 1, [], 0) := by decide +kernel
theorem f202_130 : zF 202 130 = some (.iastore, 1, [], 0) := by decide +kernel
theorem f202_131 : zF 202 131 = some (.aload_n 0, 1, [], 0) := by decide +kernel
theorem f202_132 : zF 202 132 = some (.iload_n 1, 1, [], 0) := by decide +kernel
theorem f202_133 : zF 202 133 = some (.iconst 1, 1, [], 0) := by decide +kernel
theorem f202_134 : zF 202 134 = some (.invokevirtual 205, 3, [0, 156, 10, 3, 3, 0, 0], 0) := by decide +kernel
theorem f202_137 : zF 202 137 = some (.aload_n 0, 1, [], 0) := by decide +kernel
theorem f202_138 : zF 202 138 = some (.getfield 51, 3, [10, 15, 2], 0) := by decide +kernel
theorem f202_141 : zF 202 141 = some (.iload_n 1, 1, [], 0) := by decide +kernel
theorem f202_142 : zF 202 142 = some (.iaload, 1, [], 0) := by decide +kernel
theorem f202_143 : zF 202 143 = some (.if_icmp .ge 5, 3, [], 0) := by decide +kernel
theorem f202_146 : zF 202 146 = some (.iconst 0, 1, [], 0) := by decide +kernel
theorem f202_147 : zF 202 147 = some (.ireturn, 1, [0], 0) := by decide +kernel
theorem f202_148 : zF 202 148 = some (.aload_n 0, 1, [], 0) := by decide +kernel
theorem f202_149 : zF 202 149 = some (.iload_n 1, 1, [], 0) := by decide +kernel
theorem f202_150 : zF 202 150 = some (.iconst 0, 1, [], 0) := by decide +kernel
theorem f202_151 : zF 202 151 = some (.aload_n 0, 1, [], 0) := by decide +kernel
theorem f202_152 : zF 202 152 = some (.getfield 54, 3, [10, 16, 2], 0) := by decide +kernel
theorem f202_155 : zF 202 155 = some (.iload_n 1, 1, [], 0) := by decide +kernel
theorem f202_156 : zF 202 156 = some (.iaload, 1, [], 0) := by decide +kernel
theorem f202_157 : zF 202 157 = some (.ifCond .ne 7, 3, [], 0) := by decide +kernel
theorem f202_160 : zF 202 160 = some (.iconst 3, 1, [], 0) := by decide +kernel
theorem f202_161 : zF 202 161 = some (.goto 4, 3, [], 0) := by decide +kernel
theorem f202_164 : zF 202 164 = some (.iconst 4, 1, [], 0) := by decide +kernel
theorem f202_165 : zF 202 165 = some (.invokevirtual 111, 3, [0, 157, 10, 4, 4, 0, 0], 0) := by decide +kernel
theorem f202_168 : zF 202 168 = some (.aload_n 0, 1, [], 0) := by decide +kernel
theorem f202_169 : zF 202 169 = some (.getfield 54, 3, [10, 16, 2], 0) := by decide +kernel
theorem f202_172 : zF 202 172 = some (.iload_n 1, 1, [], 0) := by decide +kernel
theorem f202_173 : zF 202 173 = some (.iaload, 1, [], 0) := by decide +kernel
theorem f202_174 : zF 202 174 = some (.ifCond .ne 7, 3, [], 0) := by decide +kernel
theorem f202_177 : zF 202 177 = some (.iconst 2, 1, [], 0) := by decide +kernel
theorem f202_178 : zF 202 178 = some (.goto 4, 3, [], 0) := by decide +kernel
theorem f202_181 : zF 202 181 = some (.iconst 3, 1, [], 0) := by decide +kernel
theorem f202_182 : zF 202 182 = some (.ireturn, 1, [0], 0) := by decide +kernel
theorem f203_0 : zF 203 0 = some (.aload_n 0, 1, [], 0) := rfl
theorem f203_1 : zF 203 1 = some (.iload_n 1, 1, [], 0) := rfl
theorem f203_2 : zF 203 2 = some (.iconst 0, 1, [], 0) := rfl
theorem f203_3 : zF 203 3 = some (.iconst 2, 1, [], 0) := rfl
theorem f203_4 : zF 203 4 = some (.invokevirtual 111, 3, [0, 157, 10, 4, 4, 0, 0], 0) := rfl
theorem f203_7 : zF 203 7 = some (.aload_n 0, 1, [], 0) := rfl
theorem f203_8 : zF 203 8 = some (.iload_n 1, 1, [], 0) := rfl
theorem f203_9 : zF 203 9 = some (.invokevirtual 299, 3, [0, 197, 10, 2, 5, 0, 0], 0) := rfl
theorem f203_12 : zF 203 12 = some (.istore_n 2, 1, [], 0) := rfl
theorem f203_13 : zF 203 13 = some (.iload_n 2, 1, [], 0) := rfl
theorem f203_14 : zF 203 14 = some (.ifCond .eq 12, 3, [], 0) := rfl
theorem f203_17 : zF 203 17 = some (.aload_n 0, 1, [], 0) := rfl
theorem f203_18 : zF 203 18 = some (.getfield 7, 3, [10, 0, 2], 0) := rfl
theorem f203_21 : zF 203 21 = some (.iconst 1, 1, [], 0) := rfl
theorem f203_22 : zF 203 22 = some (.iaload, 1, [], 0) := rfl
theorem f203_23 : zF 203 23 = some (.ifCond .ne 13, 3, [], 0) := rfl
theorem f203_26 : zF 203 26 = some (.iload_n 2, 1, [], 0) := rfl
theorem f203_27 : zF 203 27 = some (.ifCond .ne 7, 3, [], 0) := rfl
theorem f203_30 : zF 203 30 = some (.iconst 1, 1, [], 0) := rfl
theorem f203_31 : zF 203 31 = some (.goto 4, 3, [], 0) := rfl
theorem f203_34 : zF 203 34 = some (.iconst 4, 1, [], 0) := rfl
theorem f203_35 : zF 203 35 = some (.ireturn, 1, [0], 0) := rfl
theorem f203_36 : zF 203 36 = some (.aload_n 0, 1, [], 0) := rfl
theorem f203_37 : zF 203 37 = some (.iload_n 2, 1, [], 0) := rfl
theorem f203_38 : zF 203 38 = some (.invokevirtual 302, 3, [0, 199, 10, 2, 4, 0, 0], 0) := rfl
theorem f203_41 : zF 203 41 = some (.istore_n 3, 1, [], 0) := rfl
theorem f203_42 : zF 203 42 = some (.aload_n 0, 1, [], 0) := rfl
theorem f203_43 : zF 203 43 = some (.iload_n 3, 1, [], 0) := rfl
theorem f203_44 : zF 203 44 = some (.invokevirtual 305, 3, [0, 200, 10, 2, 2, 0, 0], 0) := rfl
theorem f203_47 : zF 203 47 = some (.bipush 10, 2, [], 0) := rfl
theorem f203_49 : zF 203 49 = some (.iload_n 3, 1, [], 0) := rfl
theorem f203_50 : zF 203 50 = some (.iadd, 1, [], 0) := rfl
theorem f203_51 : zF 203 51 = some (.ireturn, 1, [0], 0) := rfl
theorem f204_0 : zF 204 0 = some (.iload_n 1, 1, [], 0) := rfl
theorem f204_1 : zF 204 1 = some (.i2l, 1, [], 0) := rfl
theorem f204_2 : zF 204 2 = some (.invokestatic 192, 3, [1, 154, 0, 1, 2, 0, 0], 0) := rfl
theorem f204_5 : zF 204 5 = some (.ifCond .ne 5, 3, [], 0) := rfl
theorem f204_8 : zF 204 8 = some (.iconst (-1), 1, [], 0) := rfl
theorem f204_9 : zF 204 9 = some (.ireturn, 1, [0], 0) := rfl
theorem f204_10 : zF 204 10 = some (.aload_n 0, 1, [], 0) := rfl
theorem f204_11 : zF 204 11 = some (.iload_n 1, 1, [], 0) := rfl
theorem f204_12 : zF 204 12 = some (.invokevirtual 308, 3, [0, 201, 10, 2, 2, 0, 0], 0) := rfl
theorem f204_15 : zF 204 15 = some (.ifCond .eq 6, 3, [], 0) := rfl
theorem f204_18 : zF 204 18 = some (.bipush (-2), 2, [], 0) := rfl
theorem f204_20 : zF 204 20 = some (.ireturn, 1, [0], 0) := rfl
theorem f204_21 : zF 204 21 = some (.aload_n 0, 1, [], 0) := rfl
theorem f204_22 : zF 204 22 = some (.invokevirtual 258, 3, [0, 174, 10, 1, 2, 0, 0], 0) := rfl
theorem f204_25 : zF 204 25 = some (.aload_n 0, 1, [], 0) := rfl
theorem f204_26 : zF 204 26 = some (.invokevirtual 246, 3, [0, 175, 10, 1, 2, 0, 0], 0) := rfl
theorem f204_29 : zF 204 29 = some (.aload_n 0, 1, [], 0) := rfl
theorem f204_30 : zF 204 30 = some (.iload_n 1, 1, [], 0) := rfl
theorem f204_31 : zF 204 31 = some (.invokevirtual 311, 3, [0, 202, 10, 2, 4, 0, 0], 0) := rfl
theorem f204_34 : zF 204 34 = some (.ireturn, 1, [0], 0) := rfl
theorem f205_0 : zF 205 0 = some (.aload_n 0, 1, [], 0) := rfl
theorem f205_1 : zF 205 1 = some (.getfield 7, 3, [10, 0, 2], 0) := rfl
theorem f205_4 : zF 205 4 = some (.iconst 3, 1, [], 0) := rfl
theorem f205_5 : zF 205 5 = some (.aload_n 0, 1, [], 0) := rfl
theorem f205_6 : zF 205 6 = some (.getfield 7, 3, [10, 0, 2], 0) := rfl
theorem f205_9 : zF 205 9 = some (.iconst 3, 1, [], 0) := rfl
theorem f205_10 : zF 205 10 = some (.iaload, 1, [], 0) := rfl
theorem f205_11 : zF 205 11 = some (.i2l, 1, [], 0) := rfl
theorem f205_12 : zF 205 12 = some (.ldc2_w 314, 3, [], 1103515245) := rfl
theorem f205_15 : zF 205 15 = some (.lmul, 1, [], 0) := rfl
theorem f205_16 : zF 205 16 = some (.ldc2_w 316, 3, [], 12345) := rfl
theorem f205_19 : zF 205 19 = some (.ladd, 1, [], 0) := rfl
theorem f205_20 : zF 205 20 = some (.ldc2_w 318, 3, [], 2147483647) := rfl
theorem f205_23 : zF 205 23 = some (.land, 1, [], 0) := rfl
theorem f205_24 : zF 205 24 = some (.l2i, 1, [], 0) := rfl
theorem f205_25 : zF 205 25 = some (.iastore, 1, [], 0) := rfl
theorem f205_26 : zF 205 26 = some (.aload_n 0, 1, [], 0) := rfl
theorem f205_27 : zF 205 27 = some (.getfield 7, 3, [10, 0, 2], 0) := rfl
theorem f205_30 : zF 205 30 = some (.iconst 3, 1, [], 0) := rfl
theorem f205_31 : zF 205 31 = some (.iaload, 1, [], 0) := rfl
theorem f205_32 : zF 205 32 = some (.ldc_w 320, 3, [], 65536) := rfl
theorem f205_35 : zF 205 35 = some (.idiv, 1, [], 0) := rfl
theorem f205_36 : zF 205 36 = some (.ireturn, 1, [0], 0) := rfl
theorem f206_0 : zF 206 0 = some (.iconst 0, 1, [], 0) := rfl
theorem f206_1 : zF 206 1 = some (.istore_n 1, 1, [], 0) := rfl
theorem f206_2 : zF 206 2 = some (.iconst 0, 1, [], 0) := rfl
theorem f206_3 : zF 206 3 = some (.istore_n 2, 1, [], 0) := rfl
theorem f206_4 : zF 206 4 = some (.iload_n 2, 1, [], 0) := rfl
theorem f206_5 : zF 206 5 = some (.iconst 4, 1, [], 0) := rfl
theorem f206_6 : zF 206 6 = some (.if_icmp .ge 27, 3, [], 0) := rfl
theorem f206_9 : zF 206 9 = some (.iload_n 1, 1, [], 0) := rfl
theorem f206_10 : zF 206 10 = some (.aload_n 0, 1, [], 0) := rfl
theorem f206_11 : zF 206 11 = some (.iload_n 2, 1, [], 0) := rfl
theorem f206_12 : zF 206 12 = some (.invokevirtual 308, 3, [0, 201, 10, 2, 2, 0, 0], 0) := rfl
theorem f206_15 : zF 206 15 = some (.ifCond .eq 7, 3, [], 0) := rfl
theorem f206_18 : zF 206 18 = some (.iconst 0, 1, [], 0) := rfl
theorem f206_19 : zF 206 19 = some (.goto 6, 3, [], 0) := rfl
theorem f206_22 : zF 206 22 = some (.iconst 1, 1, [], 0) := rfl
theorem f206_23 : zF 206 23 = some (.iload_n 2, 1, [], 0) := rfl
theorem f206_24 : zF 206 24 = some (.ishl, 1, [], 0) := rfl
theorem f206_25 : zF 206 25 = some (.ior, 1, [], 0) := rfl
theorem f206_26 : zF 206 26 = some (.istore_n 1, 1, [], 0) := rfl
theorem f206_27 : zF 206 27 = some (.iinc 2 1, 3, [], 0) := rfl
theorem f206_30 : zF 206 30 = some (.goto (-26), 3, [], 0) := rfl
theorem f206_33 : zF 206 33 = some (.iload_n 1, 1, [], 0) := rfl
theorem f206_34 : zF 206 34 = some (.ireturn, 1, [0], 0) := rfl
theorem f207_0 : zF 207 0 = some (.iload_n 1, 1, [], 0) := rfl
theorem f207_1 : zF 207 1 = some (.istore_n 2, 1, [], 0) := rfl
theorem f207_2 : zF 207 2 = some (.iconst 0, 1, [], 0) := rfl
theorem f207_3 : zF 207 3 = some (.istore_n 3, 1, [], 0) := rfl
theorem f207_4 : zF 207 4 = some (.iload_n 0, 1, [], 0) := rfl
theorem f207_5 : zF 207 5 = some (.iload_n 3, 1, [], 0) := rfl
theorem f207_6 : zF 207 6 = some (.invokestatic 165, 3, [1, 152, 0, 2, 2, 0, 0], 0) := rfl
theorem f207_9 : zF 207 9 = some (.ifCond .eq 7, 3, [], 0) := rfl
theorem f207_12 : zF 207 12 = some (.iload_n 2, 1, [], 0) := rfl
theorem f207_13 : zF 207 13 = some (.ifCond .le 25, 3, [], 0) := rfl
theorem f207_16 : zF 207 16 = some (.iload_n 2, 1, [], 0) := rfl
theorem f207_17 : zF 207 17 = some (.iload_n 0, 1, [], 0) := rfl
theorem f207_18 : zF 207 18 = some (.iload_n 3, 1, [], 0) := rfl
theorem f207_19 : zF 207 19 = some (.invokestatic 165, 3, [1, 152, 0, 2, 2, 0, 0], 0) := rfl
theorem f207_22 : zF 207 22 = some (.ifCond .eq 7, 3, [], 0) := rfl
theorem f207_25 : zF 207 25 = some (.iconst 1, 1, [], 0) := rfl
theorem f207_26 : zF 207 26 = some (.goto 4, 3, [], 0) := rfl
theorem f207_29 : zF 207 29 = some (.iconst 0, 1, [], 0) := rfl
theorem f207_30 : zF 207 30 = some (.isub, 1, [], 0) := rfl
theorem f207_31 : zF 207 31 = some (.istore_n 2, 1, [], 0) := rfl
theorem f207_32 : zF 207 32 = some (.iinc 3 1, 3, [], 0) := rfl
theorem f207_35 : zF 207 35 = some (.goto (-31), 3, [], 0) := rfl
theorem f207_38 : zF 207 38 = some (.iload_n 3, 1, [], 0) := rfl
theorem f207_39 : zF 207 39 = some (.ireturn, 1, [0], 0) := rfl
theorem f208_0 : zF 208 0 = some (.iload_n 1, 1, [], 0) := rfl
theorem f208_1 : zF 208 1 = some (.i2l, 1, [], 0) := rfl
theorem f208_2 : zF 208 2 = some (.lconst 1, 1, [], 0) := rfl
theorem f208_3 : zF 208 3 = some (.ldc2_w 321, 3, [], 40) := rfl
theorem f208_6 : zF 208 6 = some (.invokestatic 121, 3, [1, 151, 0, 3, 6, 0, 0], 0) := rfl
theorem f208_9 : zF 208 9 = some (.ifCond .ne 5, 3, [], 0) := rfl
theorem f208_12 : zF 208 12 = some (.iconst (-1), 1, [], 0) := rfl
theorem f208_13 : zF 208 13 = some (.ireturn, 1, [0], 0) := rfl
theorem f208_14 : zF 208 14 = some (.aload_n 0, 1, [], 0) := rfl
theorem f208_15 : zF 208 15 = some (.invokevirtual 258, 3, [0, 174, 10, 1, 2, 0, 0], 0) := rfl
theorem f208_18 : zF 208 18 = some (.iconst 0, 1, [], 0) := rfl
theorem f208_19 : zF 208 19 = some (.istore_n 2, 1, [], 0) := rfl
theorem f208_20 : zF 208 20 = some (.iload_n 2, 1, [], 0) := rfl
theorem f208_21 : zF 208 21 = some (.iload_n 1, 1, [], 0) := rfl
theorem f208_22 : zF 208 22 = some (.if_icmp .ge 46, 3, [], 0) := rfl
theorem f208_25 : zF 208 25 = some (.aload_n 0, 1, [], 0) := rfl
theorem f208_26 : zF 208 26 = some (.invokevirtual 323, 3, [0, 206, 10, 1, 3, 0, 0], 0) := rfl
theorem f208_29 : zF 208 29 = some (.ifCond .eq 39, 3, [], 0) := rfl
theorem f208_32 : zF 208 32 = some (.aload_n 0, 1, [], 0) := rfl
theorem f208_33 : zF 208 33 = some (.invokevirtual 323, 3, [0, 206, 10, 1, 3, 0, 0], 0) := rfl
theorem f208_36 : zF 208 36 = some (.istore_n 3, 1, [], 0) := rfl
theorem f208_37 : zF 208 37 = some (.aload_n 0, 1, [], 0) := rfl
theorem f208_38 : zF 208 38 = some (.invokevirtual 326, 3, [0, 205, 10, 1, 1, 0, 0], 0) := rfl
theorem f208_41 : zF 208 41 = some (.istore 4, 2, [], 0) := rfl
theorem f208_43 : zF 208 43 = some (.aload_n 0, 1, [], 0) := rfl
theorem f208_44 : zF 208 44 = some (.aload_n 0, 1, [], 0) := rfl
theorem f208_45 : zF 208 45 = some (.iload_n 3, 1, [], 0) := rfl
theorem f208_46 : zF 208 46 = some (.iload 4, 2, [], 0) := rfl
theorem f208_48 : zF 208 48 = some (.iload_n 3, 1, [], 0) := rfl
theorem f208_49 : zF 208 49 = some (.invokestatic 290, 3, [1, 153, 0, 1, 3, 0, 0], 0) := rfl
theorem f208_52 : zF 208 52 = some (.irem, 1, [], 0) := rfl
theorem f208_53 : zF 208 53 = some (.invokestatic 329, 3, [1, 207, 0, 2, 4, 0, 0], 0) := rfl
theorem f208_56 : zF 208 56 = some (.invokevirtual 311, 3, [0, 202, 10, 2, 4, 0, 0], 0) := rfl
theorem f208_59 : zF 208 59 = some (.putfield 332, 3, [10, 37, 0], 0) := rfl
theorem f208_62 : zF 208 62 = some (.iinc 2 1, 3, [], 0) := rfl
theorem f208_65 : zF 208 65 = some (.goto (-45), 3, [], 0) := rfl
theorem f208_68 : zF 208 68 = some (.iload_n 2, 1, [], 0) := rfl
theorem f208_69 : zF 208 69 = some (.ifCond .le 7, 3, [], 0) := rfl
theorem f208_72 : zF 208 72 = some (.aload_n 0, 1, [], 0) := rfl
theorem f208_73 : zF 208 73 = some (.invokevirtual 246, 3, [0, 175, 10, 1, 2, 0, 0], 0) := rfl
theorem f208_76 : zF 208 76 = some (.iload_n 2, 1, [], 0) := rfl
theorem f208_77 : zF 208 77 = some (.ireturn, 1, [0], 0) := rfl
theorem f209_0 : zF 209 0 = some (.iconst 0, 1, [], 0) := rfl
theorem f209_1 : zF 209 1 = some (.istore_n 1, 1, [], 0) := rfl
theorem f209_2 : zF 209 2 = some (.iconst 0, 1, [], 0) := rfl
theorem f209_3 : zF 209 3 = some (.istore_n 2, 1, [], 0) := rfl
theorem f209_4 : zF 209 4 = some (.iload_n 2, 1, [], 0) := rfl
theorem f209_5 : zF 209 5 = some (.iconst 4, 1, [], 0) := rfl
theorem f209_6 : zF 209 6 = some (.if_icmp .ge 26, 3, [], 0) := rfl
theorem f209_9 : zF 209 9 = some (.iload_n 1, 1, [], 0) := rfl
theorem f209_10 : zF 209 10 = some (.aload_n 0, 1, [], 0) := rfl
theorem f209_11 : zF 209 11 = some (.iload_n 2, 1, [], 0) := rfl
theorem f209_12 : zF 209 12 = some (.iconst 0, 1, [], 0) := rfl
theorem f209_13 : zF 209 13 = some (.invokevirtual 205, 3, [0, 156, 10, 3, 3, 0, 0], 0) := rfl
theorem f209_16 : zF 209 16 = some (.ifCond .eq 7, 3, [], 0) := rfl
theorem f209_19 : zF 209 19 = some (.iconst 1, 1, [], 0) := rfl
theorem f209_20 : zF 209 20 = some (.goto 4, 3, [], 0) := rfl
theorem f209_23 : zF 209 23 = some (.iconst 0, 1, [], 0) := rfl
theorem f209_24 : zF 209 24 = some (.iadd, 1, [], 0) := rfl
theorem f209_25 : zF 209 25 = some (.istore_n 1, 1, [], 0) := rfl
theorem f209_26 : zF 209 26 = some (.iinc 2 1, 3, [], 0) := rfl
theorem f209_29 : zF 209 29 = some (.goto (-25), 3, [], 0) := rfl
theorem f209_32 : zF 209 32 = some (.iload_n 1, 1, [], 0) := rfl
theorem f209_33 : zF 209 33 = some (.ifCond .ne 15, 3, [], 0) := rfl
theorem f209_36 : zF 209 36 = some (.aload_n 0, 1, [], 0) := rfl
theorem f209_37 : zF 209 37 = some (.getfield 7, 3, [10, 0, 2], 0) := rfl
theorem f209_40 : zF 209 40 = some (.iconst 2, 1, [], 0) := rfl
theorem f209_41 : zF 209 41 = some (.iaload, 1, [], 0) := rfl
theorem f209_42 : zF 209 42 = some (.ifCond .ne 6, 3, [], 0) := rfl
theorem f209_45 : zF 209 45 = some (.bipush (-2), 2, [], 0) := rfl
theorem f209_47 : zF 209 47 = some (.ireturn, 1, [0], 0) := rfl
theorem f209_48 : zF 209 48 = some (.iconst 0, 1, [], 0) := rfl
theorem f209_49 : zF 209 49 = some (.istore_n 2, 1, [], 0) := rfl
theorem f209_50 : zF 209 50 = some (.iload_n 2, 1, [], 0) := rfl
theorem f209_51 : zF 209 51 = some (.iconst 4, 1, [], 0) := rfl
theorem f209_52 : zF 209 52 = some (.if_icmp .ge 41, 3, [], 0) := rfl
theorem f209_55 : zF 209 55 = some (.aload_n 0, 1, [], 0) := rfl
theorem f209_56 : zF 209 56 = some (.iload_n 2, 1, [], 0) := rfl
theorem f209_57 : zF 209 57 = some (.invokevirtual 308, 3, [0, 201, 10, 2, 2, 0, 0], 0) := rfl
theorem f209_60 : zF 209 60 = some (.ifCond .ne 15, 3, [], 0) := rfl
theorem f209_63 : zF 209 63 = some (.aload_n 0, 1, [], 0) := rfl
theorem f209_64 : zF 209 64 = some (.iload_n 2, 1, [], 0) := rfl
theorem f209_65 : zF 209 65 = some (.aload_n 0, 1, [], 0) := rfl
theorem f209_66 : zF 209 66 = some (.iload_n 2, 1, [], 0) := rfl
theorem f209_67 : zF 209 67 = some (.iconst 1, 1, [], 0) := rfl
theorem f209_68 : zF 209 68 = some (.invokevirtual 205, 3, [0, 156, 10, 3, 3, 0, 0], 0) := rfl
theorem f209_71 : zF 209 71 = some (.iconst (-1), 1, [], 0) := rfl
theorem f209_72 : zF 209 72 = some (.invokevirtual 271, 3, [0, 190, 10, 4, 5, 0, 0], 0) := rfl
theorem f209_75 : zF 209 75 = some (.aload_n 0, 1, [], 0) := rfl
theorem f209_76 : zF 209 76 = some (.iload_n 2, 1, [], 0) := rfl
theorem f209_77 : zF 209 77 = some (.invokevirtual 261, 3, [0, 178, 10, 2, 2, 0, 0], 0) := rfl
theorem f209_80 : zF 209 80 = some (.aload_n 0, 1, [], 0) := rfl
theorem f209_81 : zF 209 81 = some (.iload_n 2, 1, [], 0) := rfl
theorem f209_82 : zF 209 82 = some (.iconst 3, 1, [], 0) := rfl
theorem f209_83 : zF 209 83 = some (.iconst 0, 1, [], 0) := rfl
theorem f209_84 : zF 209 84 = some (.invokevirtual 111, 3, [0, 157, 10, 4, 4, 0, 0], 0) := rfl
theorem f209_87 : zF 209 87 = some (.iinc 2 1, 3, [], 0) := rfl
theorem f209_90 : zF 209 90 = some (.goto (-40), 3, [], 0) := rfl
theorem f209_93 : zF 209 93 = some (.aload_n 0, 1, [], 0) := rfl
theorem f209_94 : zF 209 94 = some (.getfield 7, 3, [10, 0, 2], 0) := rfl
theorem f209_97 : zF 209 97 = some (.iconst 2, 1, [], 0) := rfl
theorem f209_98 : zF 209 98 = some (.iconst 0, 1, [], 0) := rfl
theorem f209_99 : zF 209 99 = some (.iastore, 1, [], 0) := rfl
theorem f209_100 : zF 209 100 = some (.iload_n 1, 1, [], 0) := rfl
theorem f209_101 : zF 209 101 = some (.ireturn, 1, [0], 0) := rfl
theorem f210_0 : zF 210 0 = some (.iload_n 1, 1, [], 0) := rfl
theorem f210_1 : zF 210 1 = some (.i2l, 1, [], 0) := rfl
theorem f210_2 : zF 210 2 = some (.lconst 0, 1, [], 0) := rfl
theorem f210_3 : zF 210 3 = some (.ldc2_w 335, 3, [], 4) := rfl
theorem f210_6 : zF 210 6 = some (.invokestatic 121, 3, [1, 151, 0, 3, 6, 0, 0], 0) := rfl
theorem f210_9 : zF 210 9 = some (.ifCond .ne 5, 3, [], 0) := rfl
theorem f210_12 : zF 210 12 = some (.iconst (-1), 1, [], 0) := rfl
theorem f210_13 : zF 210 13 = some (.ireturn, 1, [0], 0) := rfl
theorem f210_14 : zF 210 14 = some (.aload_n 0, 1, [], 0) := rfl
theorem f210_15 : zF 210 15 = some (.getfield 7, 3, [10, 0, 2], 0) := rfl
theorem f210_18 : zF 210 18 = some (.iconst 1, 1, [], 0) := rfl
theorem f210_19 : zF 210 19 = some (.iaload, 1, [], 0) := rfl
theorem f210_20 : zF 210 20 = some (.istore_n 2, 1, [], 0) := rfl
theorem f210_21 : zF 210 21 = some (.aload_n 0, 1, [], 0) := rfl
theorem f210_22 : zF 210 22 = some (.getfield 7, 3, [10, 0, 2], 0) := rfl
theorem f210_25 : zF 210 25 = some (.iconst 1, 1, [], 0) := rfl
theorem f210_26 : zF 210 26 = some (.iload_n 1, 1, [], 0) := rfl
theorem f210_27 : zF 210 27 = some (.iastore, 1, [], 0) := rfl
theorem f210_28 : zF 210 28 = some (.iload_n 2, 1, [], 0) := rfl
theorem f210_29 : zF 210 29 = some (.iload_n 1, 1, [], 0) := rfl
theorem f210_30 : zF 210 30 = some (.if_icmp .ne 8, 3, [], 0) := rfl
theorem f210_33 : zF 210 33 = some (.bipush (-2), 2, [], 0) := rfl
theorem f210_35 : zF 210 35 = some (.goto 4, 3, [], 0) := rfl
theorem f210_38 : zF 210 38 = some (.iload_n 2, 1, [], 0) := rfl
theorem f210_39 : zF 210 39 = some (.ireturn, 1, [0], 0) := rfl
theorem f211_0 : zF 211 0 = some (.aload_n 0, 1, [], 0) := rfl
theorem f211_1 : zF 211 1 = some (.invokevirtual 258, 3, [0, 174, 10, 1, 2, 0, 0], 0) := rfl
theorem f211_4 : zF 211 4 = some (.aload_n 0, 1, [], 0) := rfl
theorem f211_5 : zF 211 5 = some (.invokevirtual 337, 3, [0, 209, 10, 1, 3, 0, 0], 0) := rfl
theorem f211_8 : zF 211 8 = some (.istore_n 1, 1, [], 0) := rfl
theorem f211_9 : zF 211 9 = some (.iload_n 1, 1, [], 0) := rfl
theorem f211_10 : zF 211 10 = some (.ifCond .lt 7, 3, [], 0) := rfl
theorem f211_13 : zF 211 13 = some (.aload_n 0, 1, [], 0) := rfl
theorem f211_14 : zF 211 14 = some (.invokevirtual 246, 3, [0, 175, 10, 1, 2, 0, 0], 0) := rfl
theorem f211_17 : zF 211 17 = some (.iload_n 1, 1, [], 0) := rfl
theorem f211_18 : zF 211 18 = some (.ireturn, 1, [0], 0) := rfl
theorem f212_0 : zF 212 0 = some (.aload_n 0, 1, [], 0) := rfl
theorem f212_1 : zF 212 1 = some (.invokevirtual 258, 3, [0, 174, 10, 1, 2, 0, 0], 0) := rfl
theorem f212_4 : zF 212 4 = some (.aload_n 0, 1, [], 0) := rfl
theorem f212_5 : zF 212 5 = some (.iload_n 1, 1, [], 0) := rfl
theorem f212_6 : zF 212 6 = some (.invokevirtual 340, 3, [0, 210, 10, 2, 3, 0, 0], 0) := rfl
theorem f212_9 : zF 212 9 = some (.istore_n 2, 1, [], 0) := rfl
theorem f212_10 : zF 212 10 = some (.iload_n 2, 1, [], 0) := rfl
theorem f212_11 : zF 212 11 = some (.ifCond .lt 7, 3, [], 0) := rfl
theorem f212_14 : zF 212 14 = some (.aload_n 0, 1, [], 0) := rfl
theorem f212_15 : zF 212 15 = some (.invokevirtual 246, 3, [0, 175, 10, 1, 2, 0, 0], 0) := rfl
theorem f212_18 : zF 212 18 = some (.iload_n 2, 1, [], 0) := rfl
theorem f212_19 : zF 212 19 = some (.ireturn, 1, [0], 0) := rfl
theorem f213_0 : zF 213 0 = some (.iconst 0, 1, [], 0) := rfl
theorem f213_1 : zF 213 1 = some (.istore_n 2, 1, [], 0) := rfl
theorem f213_2 : zF 213 2 = some (.iconst 0, 1, [], 0) := rfl
theorem f213_3 : zF 213 3 = some (.istore_n 3, 1, [], 0) := rfl
theorem f213_4 : zF 213 4 = some (.iload_n 3, 1, [], 0) := rfl
theorem f213_5 : zF 213 5 = some (.iconst 4, 1, [], 0) := rfl
theorem f213_6 : zF 213 6 = some (.if_icmp .ge 28, 3, [], 0) := rfl
theorem f213_9 : zF 213 9 = some (.iload_n 2, 1, [], 0) := rfl
theorem f213_10 : zF 213 10 = some (.aload_n 0, 1, [], 0) := rfl
theorem f213_11 : zF 213 11 = some (.iload_n 3, 1, [], 0) := rfl
theorem f213_12 : zF 213 12 = some (.invokevirtual 278, 3, [0, 195, 10, 2, 2, 0, 0], 0) := rfl
theorem f213_15 : zF 213 15 = some (.iload_n 1, 1, [], 0) := rfl
theorem f213_16 : zF 213 16 = some (.if_icmp .ne 9, 3, [], 0) := rfl
theorem f213_19 : zF 213 19 = some (.iconst 1, 1, [], 0) := rfl
theorem f213_20 : zF 213 20 = some (.iload_n 3, 1, [], 0) := rfl
theorem f213_21 : zF 213 21 = some (.ishl, 1, [], 0) := rfl
theorem f213_22 : zF 213 22 = some (.goto 4, 3, [], 0) := rfl
theorem f213_25 : zF 213 25 = some (.iconst 0, 1, [], 0) := rfl
theorem f213_26 : zF 213 26 = some (.ior, 1, [], 0) := rfl
theorem f213_27 : zF 213 27 = some (.istore_n 2, 1, [], 0) := rfl
theorem f213_28 : zF 213 28 = some (.iinc 3 1, 3, [], 0) := rfl
theorem f213_31 : zF 213 31 = some (.goto (-27), 3, [], 0) := rfl
theorem f213_34 : zF 213 34 = some (.iload_n 2, 1, [], 0) := rfl
theorem f213_35 : zF 213 35 = some (.ireturn, 1, [0], 0) := rfl
theorem f214_0 : zF 214 0 = some (.iload_n 1, 1, [], 0) := rfl
theorem f214_1 : zF 214 1 = some (.invokestatic 267, 3, [1, 155, 0, 1, 1, 0, 0], 0) := rfl
theorem f214_4 : zF 214 4 = some (.ifCond .ne 5, 3, [], 0) := rfl
theorem f214_7 : zF 214 7 = some (.iconst (-1), 1, [], 0) := rfl
theorem f214_8 : zF 214 8 = some (.ireturn, 1, [0], 0) := rfl
theorem f214_9 : zF 214 9 = some (.aload_n 0, 1, [], 0) := rfl
theorem f214_10 : zF 214 10 = some (.iload_n 1, 1, [], 0) := rfl
theorem f214_11 : zF 214 11 = some (.invokevirtual 281, 3, [0, 194, 10, 2, 4, 0, 0], 0) := rfl
theorem f214_14 : zF 214 14 = some (.istore_n 3, 1, [], 0) := rfl
theorem f214_15 : zF 214 15 = some (.iload_n 2, 1, [], 0) := rfl
theorem f214_16 : zF 214 16 = some (.tableswitch 97 0 4 #[36, 49, 51, 72, 91], 36, [], 0) := rfl
theorem f214_52 : zF 214 52 = some (.aload_n 0, 1, [], 0) := rfl
theorem f214_53 : zF 214 53 = some (.getfield 7, 3, [10, 0, 2], 0) := rfl
theorem f214_56 : zF 214 56 = some (.iconst 4, 1, [], 0) := rfl
theorem f214_57 : zF 214 57 = some (.iload_n 1, 1, [], 0) := rfl
theorem f214_58 : zF 214 58 = some (.iadd, 1, [], 0) := rfl
theorem f214_59 : zF 214 59 = some (.iaload, 1, [], 0) := rfl
theorem f214_60 : zF 214 60 = some (.ldc_w 343, 3, [], 1000000) := rfl
theorem f214_63 : zF 214 63 = some (.iadd, 1, [], 0) := rfl
theorem f214_64 : zF 214 64 = some (.ireturn, 1, [0], 0) := rfl
theorem f214_65 : zF 214 65 = some (.iload_n 3, 1, [], 0) := rfl
theorem f214_66 : zF 214 66 = some (.ireturn, 1, [0], 0) := rfl
theorem f214_67 : zF 214 67 = some (.iload_n 3, 1, [], 0) := rfl
theorem f214_68 : zF 214 68 = some (.ifCond .ge 7, 3, [], 0) := rfl
theorem f214_71 : zF 214 71 = some (.iconst 0, 1, [], 0) := rfl
theorem f214_72 : zF 214 72 = some (.goto 15, 3, [], 0) := rfl
theorem f214_75 : zF 214 75 = some (.aload_n 0, 1, [], 0) := rfl
theorem f214_76 : zF 214 76 = some (.iload_n 3, 1, [], 0) := rfl
theorem f214_77 : zF 214 77 = some (.aload_n 0, 1, [], 0) := rfl
theorem f214_78 : zF 214 78 = some (.iload_n 3, 1, [], 0) := rfl
theorem f214_79 : zF 214 79 = some (.iconst 1, 1, [], 0) := rfl
theorem f214_80 : zF 214 80 = some (.invokevirtual 205, 3, [0, 156, 10, 3, 3, 0, 0], 0) := rfl
theorem f214_83 : zF 214 83 = some (.iload_n 1, 1, [], 0) := rfl
theorem f214_84 : zF 214 84 = some (.invokevirtual 274, 3, [0, 192, 10, 4, 6, 0, 0], 0) := rfl
theorem f214_87 : zF 214 87 = some (.ireturn, 1, [0], 0) := rfl
theorem f214_88 : zF 214 88 = some (.aload_n 0, 1, [], 0) := rfl
theorem f214_89 : zF 214 89 = some (.getfield 7, 3, [10, 0, 2], 0) := rfl
theorem f214_92 : zF 214 92 = some (.iconst 0, 1, [], 0) := rfl
theorem f214_93 : zF 214 93 = some (.iaload, 1, [], 0) := rfl
theorem f214_94 : zF 214 94 = some (.iload_n 1, 1, [], 0) := rfl
theorem f214_95 : zF 214 95 = some (.invokestatic 165, 3, [1, 152, 0, 2, 2, 0, 0], 0) := rfl
theorem f214_98 : zF 214 98 = some (.ifCond .eq 7, 3, [], 0) := rfl
theorem f214_101 : zF 214 101 = some (.iconst 1, 1, [], 0) := rfl
theorem f214_102 : zF 214 102 = some (.goto 4, 3, [], 0) := rfl
theorem f214_105 : zF 214 105 = some (.iconst 0, 1, [], 0) := rfl
theorem f214_106 : zF 214 106 = some (.ireturn, 1, [0], 0) := rfl
theorem f214_107 : zF 214 107 = some (.aload_n 0, 1, [], 0) := rfl
theorem f214_108 : zF 214 108 = some (.iload_n 1, 1, [], 0) := rfl
theorem f214_109 : zF 214 109 = some (.invokevirtual 344, 3, [0, 213, 10, 2, 4, 0, 0], 0) := rfl
theorem f214_112 : zF 214 112 = some (.ireturn, 1, [0], 0) := rfl
theorem f214_113 : zF 214 113 = some (.iconst (-1), 1, [], 0) := rfl
theorem f214_114 : zF 214 114 = some (.ireturn, 1, [0], 0) := rfl
theorem f215_0 : zF 215 0 = some (.iload_n 1, 1, [], 0) := rfl
theorem f215_1 : zF 215 1 = some (.i2l, 1, [], 0) := rfl
theorem f215_2 : zF 215 2 = some (.invokestatic 192, 3, [1, 154, 0, 1, 2, 0, 0], 0) := rfl
theorem f215_5 : zF 215 5 = some (.ifCond .ne 5, 3, [], 0) := rfl
theorem f215_8 : zF 215 8 = some (.iconst (-1), 1, [], 0) := rfl
theorem f215_9 : zF 215 9 = some (.ireturn, 1, [0], 0) := rfl
theorem f215_10 : zF 215 10 = some (.iload_n 2, 1, [], 0) := rfl
theorem f215_11 : zF 215 11 = some (.tableswitch 94 0 6 #[41, 41, 48, 60, 66, 73, 80], 41, [], 0) := rfl
theorem f215_52 : zF 215 52 = some (.aload_n 0, 1, [], 0) := rfl
theorem f215_53 : zF 215 53 = some (.iload_n 1, 1, [], 0) := rfl
theorem f215_54 : zF 215 54 = some (.iload_n 2, 1, [], 0) := rfl
theorem f215_55 : zF 215 55 = some (.invokevirtual 205, 3, [0, 156, 10, 3, 3, 0, 0], 0) := rfl
theorem f215_58 : zF 215 58 = some (.ireturn, 1, [0], 0) := rfl
theorem f215_59 : zF 215 59 = some (.aload_n 0, 1, [], 0) := rfl
theorem f215_60 : zF 215 60 = some (.iload_n 1, 1, [], 0) := rfl
theorem f215_61 : zF 215 61 = some (.aload_n 0, 1, [], 0) := rfl
theorem f215_62 : zF 215 62 = some (.iload_n 1, 1, [], 0) := rfl
theorem f215_63 : zF 215 63 = some (.iconst 1, 1, [], 0) := rfl
theorem f215_64 : zF 215 64 = some (.invokevirtual 205, 3, [0, 156, 10, 3, 3, 0, 0], 0) := rfl
theorem f215_67 : zF 215 67 = some (.invokevirtual 287, 3, [0, 193, 10, 3, 5, 0, 0], 0) := rfl
theorem f215_70 : zF 215 70 = some (.ireturn, 1, [0], 0) := rfl
theorem f215_71 : zF 215 71 = some (.aload_n 0, 1, [], 0) := rfl
theorem f215_72 : zF 215 72 = some (.iload_n 1, 1, [], 0) := rfl
theorem f215_73 : zF 215 73 = some (.invokevirtual 278, 3, [0, 195, 10, 2, 2, 0, 0], 0) := rfl
theorem f215_76 : zF 215 76 = some (.ireturn, 1, [0], 0) := rfl
theorem f215_77 : zF 215 77 = some (.aload_n 0, 1, [], 0) := rfl
theorem f215_78 : zF 215 78 = some (.iload_n 1, 1, [], 0) := rfl
theorem f215_79 : zF 215 79 = some (.iconst 2, 1, [], 0) := rfl
theorem f215_80 : zF 215 80 = some (.invokevirtual 205, 3, [0, 156, 10, 3, 3, 0, 0], 0) := rfl
theorem f215_83 : zF 215 83 = some (.ireturn, 1, [0], 0) := rfl
theorem f215_84 : zF 215 84 = some (.aload_n 0, 1, [], 0) := rfl
theorem f215_85 : zF 215 85 = some (.iload_n 1, 1, [], 0) := rfl
theorem f215_86 : zF 215 86 = some (.iconst 3, 1, [], 0) := rfl
theorem f215_87 : zF 215 87 = some (.invokevirtual 205, 3, [0, 156, 10, 3, 3, 0, 0], 0) := rfl
theorem f215_90 : zF 215 90 = some (.ireturn, 1, [0], 0) := rfl
theorem f215_91 : zF 215 91 = some (.aload_n 0, 1, [], 0) := rfl
theorem f215_92 : zF 215 92 = some (.iload_n 1, 1, [], 0) := rfl
theorem f215_93 : zF 215 93 = some (.invokevirtual 299, 3, [0, 197, 10, 2, 5, 0, 0], 0) := rfl
theorem f215_96 : zF 215 96 = some (.ifCond .eq 7, 3, [], 0) := rfl
theorem f215_99 : zF 215 99 = some (.iconst 1, 1, [], 0) := rfl
theorem f215_100 : zF 215 100 = some (.goto 4, 3, [], 0) := rfl
theorem f215_103 : zF 215 103 = some (.iconst 0, 1, [], 0) := rfl
theorem f215_104 : zF 215 104 = some (.ireturn, 1, [0], 0) := rfl
theorem f215_105 : zF 215 105 = some (.iconst (-1), 1, [], 0) := rfl
theorem f215_106 : zF 215 106 = some (.ireturn, 1, [0], 0) := rfl
theorem f216_0 : zF 216 0 = some (.iconst 0, 1, [], 0) := rfl
theorem f216_1 : zF 216 1 = some (.istore_n 2, 1, [], 0) := rfl
theorem f216_2 : zF 216 2 = some (.iconst 0, 1, [], 0) := rfl
theorem f216_3 : zF 216 3 = some (.istore_n 3, 1, [], 0) := rfl
theorem f216_4 : zF 216 4 = some (.iload_n 3, 1, [], 0) := rfl
theorem f216_5 : zF 216 5 = some (.iconst 4, 1, [], 0) := rfl
theorem f216_6 : zF 216 6 = some (.if_icmp .ge 29, 3, [], 0) := rfl
theorem f216_9 : zF 216 9 = some (.iload_n 2, 1, [], 0) := rfl
theorem f216_10 : zF 216 10 = some (.aload_n 0, 1, [], 0) := rfl
theorem f216_11 : zF 216 11 = some (.iload_n 3, 1, [], 0) := rfl
theorem f216_12 : zF 216 12 = some (.iconst 0, 1, [], 0) := rfl
theorem f216_13 : zF 216 13 = some (.invokevirtual 205, 3, [0, 156, 10, 3, 3, 0, 0], 0) := rfl
theorem f216_16 : zF 216 16 = some (.iload_n 1, 1, [], 0) := rfl
theorem f216_17 : zF 216 17 = some (.if_icmp .ne 9, 3, [], 0) := rfl
theorem f216_20 : zF 216 20 = some (.iconst 1, 1, [], 0) := rfl
theorem f216_21 : zF 216 21 = some (.iload_n 3, 1, [], 0) := rfl
theorem f216_22 : zF 216 22 = some (.ishl, 1, [], 0) := rfl
theorem f216_23 : zF 216 23 = some (.goto 4, 3, [], 0) := rfl
theorem f216_26 : zF 216 26 = some (.iconst 0, 1, [], 0) := rfl
theorem f216_27 : zF 216 27 = some (.ior, 1, [], 0) := rfl
theorem f216_28 : zF 216 28 = some (.istore_n 2, 1, [], 0) := rfl
theorem f216_29 : zF 216 29 = some (.iinc 3 1, 3, [], 0) := rfl
theorem f216_32 : zF 216 32 = some (.goto (-28), 3, [], 0) := rfl
theorem f216_35 : zF 216 35 = some (.iload_n 2, 1, [], 0) := rfl
theorem f216_36 : zF 216 36 = some (.ireturn, 1, [0], 0) := rfl
theorem f217_0 : zF 217 0 = some (.iconst 0, 1, [], 0) := rfl
theorem f217_1 : zF 217 1 = some (.istore_n 1, 1, [], 0) := rfl
theorem f217_2 : zF 217 2 = some (.iconst 0, 1, [], 0) := rfl
theorem f217_3 : zF 217 3 = some (.istore_n 2, 1, [], 0) := rfl
theorem f217_4 : zF 217 4 = some (.iload_n 2, 1, [], 0) := rfl
theorem f217_5 : zF 217 5 = some (.iconst 4, 1, [], 0) := rfl
theorem f217_6 : zF 217 6 = some (.if_icmp .ge 27, 3, [], 0) := rfl
theorem f217_9 : zF 217 9 = some (.iload_n 1, 1, [], 0) := rfl
theorem f217_10 : zF 217 10 = some (.aload_n 0, 1, [], 0) := rfl
theorem f217_11 : zF 217 11 = some (.iload_n 2, 1, [], 0) := rfl
theorem f217_12 : zF 217 12 = some (.invokevirtual 299, 3, [0, 197, 10, 2, 5, 0, 0], 0) := rfl
theorem f217_15 : zF 217 15 = some (.ifCond .eq 9, 3, [], 0) := rfl
theorem f217_18 : zF 217 18 = some (.iconst 1, 1, [], 0) := rfl
theorem f217_19 : zF 217 19 = some (.iload_n 2, 1, [], 0) := rfl
theorem f217_20 : zF 217 20 = some (.ishl, 1, [], 0) := rfl
theorem f217_21 : zF 217 21 = some (.goto 4, 3, [], 0) := rfl
theorem f217_24 : zF 217 24 = some (.iconst 0, 1, [], 0) := rfl
theorem f217_25 : zF 217 25 = some (.ior, 1, [], 0) := rfl
theorem f217_26 : zF 217 26 = some (.istore_n 1, 1, [], 0) := rfl
theorem f217_27 : zF 217 27 = some (.iinc 2 1, 3, [], 0) := rfl
theorem f217_30 : zF 217 30 = some (.goto (-26), 3, [], 0) := rfl
theorem f217_33 : zF 217 33 = some (.iload_n 1, 1, [], 0) := rfl
theorem f217_34 : zF 217 34 = some (.ireturn, 1, [0], 0) := rfl
theorem f218_0 : zF 218 0 = some (.iload_n 1, 1, [], 0) := rfl
theorem f218_1 : zF 218 1 = some (.tableswitch 88 0 8 #[51, 58, 58, 58, 58, 64, 69, 76, 83], 51, [], 0) := rfl
theorem f218_52 : zF 218 52 = some (.aload_n 0, 1, [], 0) := rfl
theorem f218_53 : zF 218 53 = some (.getfield 7, 3, [10, 0, 2], 0) := rfl
theorem f218_56 : zF 218 56 = some (.iconst 1, 1, [], 0) := rfl
theorem f218_57 : zF 218 57 = some (.iaload, 1, [], 0) := rfl
theorem f218_58 : zF 218 58 = some (.ireturn, 1, [0], 0) := rfl
theorem f218_59 : zF 218 59 = some (.aload_n 0, 1, [], 0) := rfl
theorem f218_60 : zF 218 60 = some (.iload_n 1, 1, [], 0) := rfl
theorem f218_61 : zF 218 61 = some (.invokevirtual 347, 3, [0, 216, 10, 2, 4, 0, 0], 0) := rfl
theorem f218_64 : zF 218 64 = some (.ireturn, 1, [0], 0) := rfl
theorem f218_65 : zF 218 65 = some (.aload_n 0, 1, [], 0) := rfl
theorem f218_66 : zF 218 66 = some (.invokevirtual 350, 3, [0, 217, 10, 1, 3, 0, 0], 0) := rfl
theorem f218_69 : zF 218 69 = some (.ireturn, 1, [0], 0) := rfl
theorem f218_70 : zF 218 70 = some (.aload_n 0, 1, [], 0) := rfl
theorem f218_71 : zF 218 71 = some (.getfield 7, 3, [10, 0, 2], 0) := rfl
theorem f218_74 : zF 218 74 = some (.iconst 0, 1, [], 0) := rfl
theorem f218_75 : zF 218 75 = some (.iaload, 1, [], 0) := rfl
theorem f218_76 : zF 218 76 = some (.ireturn, 1, [0], 0) := rfl
theorem f218_77 : zF 218 77 = some (.aload_n 0, 1, [], 0) := rfl
theorem f218_78 : zF 218 78 = some (.getfield 7, 3, [10, 0, 2], 0) := rfl
theorem f218_81 : zF 218 81 = some (.iconst 2, 1, [], 0) := rfl
theorem f218_82 : zF 218 82 = some (.iaload, 1, [], 0) := rfl
theorem f218_83 : zF 218 83 = some (.ireturn, 1, [0], 0) := rfl
theorem f218_84 : zF 218 84 = some (.aload_n 0, 1, [], 0) := rfl
theorem f218_85 : zF 218 85 = some (.getfield 202, 3, [10, 2, 0], 0) := rfl
theorem f218_88 : zF 218 88 = some (.ireturn, 1, [0], 0) := rfl
theorem f218_89 : zF 218 89 = some (.iconst (-1), 1, [], 0) := rfl
theorem f218_90 : zF 218 90 = some (.ireturn, 1, [0], 0) := rfl
theorem f219_0 : zF 219 0 = some (.iconst 0, 1, [], 0) := rfl
theorem f219_1 : zF 219 1 = some (.istore_n 3, 1, [], 0) := rfl
theorem f219_2 : zF 219 2 = some (.iconst 0, 1, [], 0) := rfl
theorem f219_3 : zF 219 3 = some (.istore 4, 2, [], 0) := rfl
theorem f219_5 : zF 219 5 = some (.iload 4, 2, [], 0) := rfl
theorem f219_7 : zF 219 7 = some (.iconst 4, 1, [], 0) := rfl
theorem f219_8 : zF 219 8 = some (.if_icmp .ge 92, 3, [], 0) := rfl
theorem f219_11 : zF 219 11 = some (.iload_n 1, 1, [], 0) := rfl
theorem f219_12 : zF 219 12 = some (.iload_n 2, 1, [], 0) := rfl
theorem f219_13 : zF 219 13 = some (.if_icmp .eq 87, 3, [], 0) := rfl
theorem f219_16 : zF 219 16 = some (.iconst 0, 1, [], 0) := rfl
theorem f219_17 : zF 219 17 = some (.istore 5, 2, [], 0) := rfl
theorem f219_19 : zF 219 19 = some (.iload 5, 2, [], 0) := rfl
theorem f219_21 : zF 219 21 = some (.aload_n 0, 1, [], 0) := rfl
theorem f219_22 : zF 219 22 = some (.getfield 51, 3, [10, 15, 2], 0) := rfl
theorem f219_25 : zF 219 25 = some (.iload 4, 2, [], 0) := rfl
theorem f219_27 : zF 219 27 = some (.iaload, 1, [], 0) := rfl
theorem f219_28 : zF 219 28 = some (.if_icmp .ge 66, 3, [], 0) := rfl
theorem f219_31 : zF 219 31 = some (.iload_n 3, 1, [], 0) := rfl
theorem f219_32 : zF 219 32 = some (.ifCond .ne 62, 3, [], 0) := rfl
theorem f219_35 : zF 219 35 = some (.aload_n 0, 1, [], 0) := rfl
theorem f219_36 : zF 219 36 = some (.iload 4, 2, [], 0) := rfl
theorem f219_38 : zF 219 38 = some (.iload 5, 2, [], 0) := rfl
theorem f219_40 : zF 219 40 = some (.invokevirtual 196, 3, [0, 170, 10, 3, 3, 0, 0], 0) := rfl
theorem f219_43 : zF 219 43 = some (.ifCond .ne 43, 3, [], 0) := rfl
theorem f219_46 : zF 219 46 = some (.aload_n 0, 1, [], 0) := rfl
theorem f219_47 : zF 219 47 = some (.iload 4, 2, [], 0) := rfl
theorem f219_49 : zF 219 49 = some (.iload 5, 2, [], 0) := rfl
theorem f219_51 : zF 219 51 = some (.invokevirtual 199, 3, [0, 171, 10, 3, 3, 0, 0], 0) := rfl
theorem f219_54 : zF 219 54 = some (.iload_n 2, 1, [], 0) := rfl
theorem f219_55 : zF 219 55 = some (.if_icmp .ne 31, 3, [], 0) := rfl
theorem f219_58 : zF 219 58 = some (.aload_n 0, 1, [], 0) := rfl
theorem f219_59 : zF 219 59 = some (.iload 4, 2, [], 0) := rfl
theorem f219_61 : zF 219 61 = some (.iload 5, 2, [], 0) := rfl
theorem f219_63 : zF 219 63 = some (.iload_n 1, 1, [], 0) := rfl
theorem f219_64 : zF 219 64 = some (.invokevirtual 274, 3, [0, 192, 10, 4, 6, 0, 0], 0) := rfl
theorem f219_67 : zF 219 67 = some (.ifCond .le 19, 3, [], 0) := rfl
theorem f219_70 : zF 219 70 = some (.aload_n 0, 1, [], 0) := rfl
theorem f219_71 : zF 219 71 = some (.iload 4, 2, [], 0) := rfl
theorem f219_73 : zF 219 73 = some (.iload 5, 2, [], 0) := rfl
theorem f219_75 : zF 219 75 = some (.iload_n 2, 1, [], 0) := rfl
theorem f219_76 : zF 219 76 = some (.invokevirtual 274, 3, [0, 192, 10, 4, 6, 0, 0], 0) := rfl
theorem f219_79 : zF 219 79 = some (.ifCond .ne 7, 3, [], 0) := rfl
theorem f219_82 : zF 219 82 = some (.iconst 1, 1, [], 0) := rfl
theorem f219_83 : zF 219 83 = some (.goto 4, 3, [], 0) := rfl
theorem f219_86 : zF 219 86 = some (.iconst 0, 1, [], 0) := rfl
theorem f219_87 : zF 219 87 = some (.istore_n 3, 1, [], 0) := rfl
theorem f219_88 : zF 219 88 = some (.iinc 5 1, 3, [], 0) := rfl
theorem f219_91 : zF 219 91 = some (.goto (-72), 3, [], 0) := rfl
theorem f219_94 : zF 219 94 = some (.iinc 4 1, 3, [], 0) := rfl
theorem f219_97 : zF 219 97 = some (.goto (-92), 3, [], 0) := rfl
theorem f219_100 : zF 219 100 = some (.iload_n 3, 1, [], 0) := rfl
theorem f219_101 : zF 219 101 = some (.ireturn, 1, [1], 0) := rfl
theorem f220_0 : zF 220 0 = some (.iload_n 1, 1, [], 0) := rfl
theorem f220_1 : zF 220 1 = some (.invokestatic 267, 3, [1, 155, 0, 1, 1, 0, 0], 0) := rfl
theorem f220_4 : zF 220 4 = some (.ifCond .eq 15, 3, [], 0) := rfl
theorem f220_7 : zF 220 7 = some (.iload_n 2, 1, [], 0) := rfl
theorem f220_8 : zF 220 8 = some (.invokestatic 267, 3, [1, 155, 0, 1, 1, 0, 0], 0) := rfl
theorem f220_11 : zF 220 11 = some (.ifCond .eq 8, 3, [], 0) := rfl
theorem f220_14 : zF 220 14 = some (.iload_n 1, 1, [], 0) := rfl
theorem f220_15 : zF 220 15 = some (.iload_n 2, 1, [], 0) := rfl
theorem f220_16 : zF 220 16 = some (.if_icmp .ne 5, 3, [], 0) := rfl
theorem f220_19 : zF 220 19 = some (.iconst (-1), 1, [], 0) := rfl
theorem f220_20 : zF 220 20 = some (.ireturn, 1, [0], 0) := rfl
theorem f220_21 : zF 220 21 = some (.aload_n 0, 1, [], 0) := rfl
theorem f220_22 : zF 220 22 = some (.iload_n 1, 1, [], 0) := rfl
theorem f220_23 : zF 220 23 = some (.iload_n 2, 1, [], 0) := rfl
theorem f220_24 : zF 220 24 = some (.invokevirtual 353, 3, [0, 219, 10, 3, 6, 0, 0], 0) := rfl
theorem f220_27 : zF 220 27 = some (.ifCond .eq 7, 3, [], 0) := rfl
theorem f220_30 : zF 220 30 = some (.iconst 1, 1, [], 0) := rfl
theorem f220_31 : zF 220 31 = some (.goto 4, 3, [], 0) := rfl
theorem f220_34 : zF 220 34 = some (.iconst 0, 1, [], 0) := rfl
theorem f220_35 : zF 220 35 = some (.ireturn, 1, [0], 0) := rfl
theorem f221_0 : zF 221 0 = some (.iconst 1, 1, [], 0) := rfl
theorem f221_1 : zF 221 1 = some (.iload_n 1, 1, [], 0) := rfl
theorem f221_2 : zF 221 2 = some (.ishl, 1, [], 0) := rfl
theorem f221_3 : zF 221 3 = some (.istore_n 2, 1, [], 0) := rfl
theorem f221_4 : zF 221 4 = some (.iconst 1, 1, [], 0) := rfl
theorem f221_5 : zF 221 5 = some (.istore_n 3, 1, [], 0) := rfl
theorem f221_6 : zF 221 6 = some (.iload_n 3, 1, [], 0) := rfl
theorem f221_7 : zF 221 7 = some (.bipush 6, 2, [], 0) := rfl
theorem f221_9 : zF 221 9 = some (.if_icmp .gt 66, 3, [], 0) := rfl
theorem f221_12 : zF 221 12 = some (.iconst 0, 1, [], 0) := rfl
theorem f221_13 : zF 221 13 = some (.istore 4, 2, [], 0) := rfl
theorem f221_15 : zF 221 15 = some (.iconst 0, 1, [], 0) := rfl
theorem f221_16 : zF 221 16 = some (.istore 5, 2, [], 0) := rfl
theorem f221_18 : zF 221 18 = some (.iload 5, 2, [], 0) := rfl
theorem f221_20 : zF 221 20 = some (.bipush 6, 2, [], 0) := rfl
theorem f221_22 : zF 221 22 = some (.if_icmp .ge 34, 3, [], 0) := rfl
theorem f221_25 : zF 221 25 = some (.iload 4, 2, [], 0) := rfl
theorem f221_27 : zF 221 27 = some (.iload_n 2, 1, [], 0) := rfl
theorem f221_28 : zF 221 28 = some (.iload 5, 2, [], 0) := rfl
theorem f221_30 : zF 221 30 = some (.invokestatic 165, 3, [1, 152, 0, 2, 2, 0, 0], 0) := rfl
theorem f221_33 : zF 221 33 = some (.ifCond .eq 13, 3, [], 0) := rfl
theorem f221_36 : zF 221 36 = some (.aload_n 0, 1, [], 0) := rfl
theorem f221_37 : zF 221 37 = some (.getfield 96, 3, [10, 38, 2], 0) := rfl
theorem f221_40 : zF 221 40 = some (.iload 5, 2, [], 0) := rfl
theorem f221_42 : zF 221 42 = some (.iaload, 1, [], 0) := rfl
theorem f221_43 : zF 221 43 = some (.goto 4, 3, [], 0) := rfl
theorem f221_46 : zF 221 46 = some (.iconst 0, 1, [], 0) := rfl
theorem f221_47 : zF 221 47 = some (.ior, 1, [], 0) := rfl
theorem f221_48 : zF 221 48 = some (.istore 4, 2, [], 0) := rfl
theorem f221_50 : zF 221 50 = some (.iinc 5 1, 3, [], 0) := rfl
theorem f221_53 : zF 221 53 = some (.goto (-35), 3, [], 0) := rfl
theorem f221_56 : zF 221 56 = some (.iload 4, 2, [], 0) := rfl
theorem f221_58 : zF 221 58 = some (.istore_n 2, 1, [], 0) := rfl
theorem f221_59 : zF 221 59 = some (.iload_n 2, 1, [], 0) := rfl
theorem f221_60 : zF 221 60 = some (.iload_n 1, 1, [], 0) := rfl
theorem f221_61 : zF 221 61 = some (.invokestatic 165, 3, [1, 152, 0, 2, 2, 0, 0], 0) := rfl
theorem f221_64 : zF 221 64 = some (.ifCond .eq 5, 3, [], 0) := rfl
theorem f221_67 : zF 221 67 = some (.iload_n 3, 1, [], 0) := rfl
theorem f221_68 : zF 221 68 = some (.ireturn, 1, [0], 0) := rfl
theorem f221_69 : zF 221 69 = some (.iinc 3 1, 3, [], 0) := rfl
theorem f221_72 : zF 221 72 = some (.goto (-66), 3, [], 0) := rfl
theorem f221_75 : zF 221 75 = some (.iconst 0, 1, [], 0) := rfl
theorem f221_76 : zF 221 76 = some (.ireturn, 1, [0], 0) := rfl
theorem f222_0 : zF 222 0 = some (.iload_n 1, 1, [], 0) := rfl
theorem f222_1 : zF 222 1 = some (.i2l, 1, [], 0) := rfl
theorem f222_2 : zF 222 2 = some (.lconst 0, 1, [], 0) := rfl
theorem f222_3 : zF 222 3 = some (.ldc2_w 356, 3, [], 2) := rfl
theorem f222_6 : zF 222 6 = some (.invokestatic 121, 3, [1, 151, 0, 3, 6, 0, 0], 0) := rfl
theorem f222_9 : zF 222 9 = some (.ifCond .ne 5, 3, [], 0) := rfl
theorem f222_12 : zF 222 12 = some (.iconst (-1), 1, [], 0) := rfl
theorem f222_13 : zF 222 13 = some (.ireturn, 1, [0], 0) := rfl
theorem f222_14 : zF 222 14 = some (.iconst 0, 1, [], 0) := rfl
theorem f222_15 : zF 222 15 = some (.istore_n 2, 1, [], 0) := rfl
theorem f222_16 : zF 222 16 = some (.iload_n 2, 1, [], 0) := rfl
theorem f222_17 : zF 222 17 = some (.bipush 6, 2, [], 0) := rfl
theorem f222_19 : zF 222 19 = some (.if_icmp .ge 55, 3, [], 0) := rfl
theorem f222_22 : zF 222 22 = some (.aload_n 0, 1, [], 0) := rfl
theorem f222_23 : zF 222 23 = some (.getfield 96, 3, [10, 38, 2], 0) := rfl
theorem f222_26 : zF 222 26 = some (.iload_n 2, 1, [], 0) := rfl
theorem f222_27 : zF 222 27 = some (.iconst 0, 1, [], 0) := rfl
theorem f222_28 : zF 222 28 = some (.iastore, 1, [], 0) := rfl
theorem f222_29 : zF 222 29 = some (.iconst 0, 1, [], 0) := rfl
theorem f222_30 : zF 222 30 = some (.istore_n 3, 1, [], 0) := rfl
theorem f222_31 : zF 222 31 = some (.iload_n 3, 1, [], 0) := rfl
theorem f222_32 : zF 222 32 = some (.bipush 6, 2, [], 0) := rfl
theorem f222_34 : zF 222 34 = some (.if_icmp .ge 34, 3, [], 0) := rfl
theorem f222_37 : zF 222 37 = some (.aload_n 0, 1, [], 0) := rfl
theorem f222_38 : zF 222 38 = some (.getfield 96, 3, [10, 38, 2], 0) := rfl
theorem f222_41 : zF 222 41 = some (.iload_n 2, 1, [], 0) := rfl
theorem f222_42 : zF 222 42 = some (.dup2, 1, [], 0) := rfl
theorem f222_43 : zF 222 43 = some (.iaload, 1, [], 0) := rfl
theorem f222_44 : zF 222 44 = some (.aload_n 0, 1, [], 0) := rfl
theorem f222_45 : zF 222 45 = some (.iload_n 2, 1, [], 0) := rfl
theorem f222_46 : zF 222 46 = some (.iload_n 3, 1, [], 0) := rfl
theorem f222_47 : zF 222 47 = some (.invokevirtual 353, 3, [0, 219, 10, 3, 6, 0, 0], 0) := rfl
theorem f222_50 : zF 222 50 = some (.ifCond .eq 9, 3, [], 0) := rfl
theorem f222_53 : zF 222 53 = some (.iconst 1, 1, [], 0) := rfl
theorem f222_54 : zF 222 54 = some (.iload_n 3, 1, [], 0) := rfl
theorem f222_55 : zF 222 55 = some (.ishl, 1, [], 0) := rfl
theorem f222_56 : zF 222 56 = some (.goto 4, 3, [], 0) := rfl
theorem f222_59 : zF 222 59 = some (.iconst 0, 1, [], 0) := rfl
theorem f222_60 : zF 222 60 = some (.ior, 1, [], 0) := rfl
theorem f222_61 : zF 222 61 = some (.iastore, 1, [], 0) := rfl
theorem f222_62 : zF 222 62 = some (.iinc 3 1, 3, [], 0) := rfl
theorem f222_65 : zF 222 65 = some (.goto (-34), 3, [], 0) := rfl
theorem f222_68 : zF 222 68 = some (.iinc 2 1, 3, [], 0) := rfl
theorem f222_71 : zF 222 71 = some (.goto (-55), 3, [], 0) := rfl
theorem f222_74 : zF 222 74 = some (.bipush (-4), 2, [], 0) := rfl
theorem f222_76 : zF 222 76 = some (.istore_n 2, 1, [], 0) := rfl
theorem f222_77 : zF 222 77 = some (.iconst 0, 1, [], 0) := rfl
theorem f222_78 : zF 222 78 = some (.istore_n 3, 1, [], 0) := rfl
theorem f222_79 : zF 222 79 = some (.iconst 0, 1, [], 0) := rfl
theorem f222_80 : zF 222 80 = some (.istore 4, 2, [], 0) := rfl
theorem f222_82 : zF 222 82 = some (.iload 4, 2, [], 0) := rfl
theorem f222_84 : zF 222 84 = some (.bipush 6, 2, [], 0) := rfl
theorem f222_86 : zF 222 86 = some (.if_icmp .ge 55, 3, [], 0) := rfl
theorem f222_89 : zF 222 89 = some (.aload_n 0, 1, [], 0) := rfl
theorem f222_90 : zF 222 90 = some (.iload 4, 2, [], 0) := rfl
theorem f222_92 : zF 222 92 = some (.invokevirtual 358, 3, [0, 221, 10, 2, 6, 0, 0], 0) := rfl
theorem f222_95 : zF 222 95 = some (.istore 5, 2, [], 0) := rfl
theorem f222_97 : zF 222 97 = some (.iload_n 3, 1, [], 0) := rfl
theorem f222_98 : zF 222 98 = some (.iload 5, 2, [], 0) := rfl
theorem f222_100 : zF 222 100 = some (.ifCond .le 10, 3, [], 0) := rfl
theorem f222_103 : zF 222 103 = some (.iconst 1, 1, [], 0) := rfl
theorem f222_104 : zF 222 104 = some (.iload 4, 2, [], 0) := rfl
theorem f222_106 : zF 222 106 = some (.ishl, 1, [], 0) := rfl
theorem f222_107 : zF 222 107 = some (.goto 4, 3, [], 0) := rfl
theorem f222_110 : zF 222 110 = some (.iconst 0, 1, [], 0) := rfl
theorem f222_111 : zF 222 111 = some (.ior, 1, [], 0) := rfl
theorem f222_112 : zF 222 112 = some (.istore_n 3, 1, [], 0) := rfl
theorem f222_113 : zF 222 113 = some (.iload 5, 2, [], 0) := rfl
theorem f222_115 : zF 222 115 = some (.ifCond .le 18, 3, [], 0) := rfl
theorem f222_118 : zF 222 118 = some (.iload_n 2, 1, [], 0) := rfl
theorem f222_119 : zF 222 119 = some (.ifCond .lt 9, 3, [], 0) := by decide +kernel
theorem f222_122 : zF 222 122 = some (.iload 5, 2, [], 0) := by decide +kernel
theorem f222_124 : zF 222 124 = some (.iload_n 2, 1, [], 0) := by decide +kernel
theorem f222_125 : zF 222 125 = some (.if_icmp .ge 8, 3, [], 0) := by decide +kernel
theorem f222_128 : zF 222 128 = some (.iload 5, 2, [], 0) := by decide +kernel
theorem f222_130 : zF 222 130 = some (.goto 4, 3, [], 0) := by decide +kernel
theorem f222_133 : zF 222 133 = some (.iload_n 2, 1, [], 0) := by decide +kernel
theorem f222_134 : zF 222 134 = some (.istore_n 2, 1, [], 0) := by decide +kernel
theorem f222_135 : zF 222 135 = some (.iinc 4 1, 3, [], 0) := by decide +kernel
theorem f222_138 : zF 222 138 = some (.goto (-56), 3, [], 0) := by decide +kernel
theorem f222_141 : zF 222 141 = some (.iload_n 1, 1, [], 0) := by decide +kernel
theorem f222_142 : zF 222 142 = some (.ifCond .ne 15, 3, [], 0) := by decide +kernel
theorem f222_145 : zF 222 145 = some (.iload_n 3, 1, [], 0) := by decide +kernel
theorem f222_146 : zF 222 146 = some (.ifCond .eq 7, 3, [], 0) := by decide +kernel
theorem f222_149 : zF 222 149 = some (.iconst 1, 1, [], 0) := by decide +kernel
theorem f222_150 : zF 222 150 = some (.goto 17, 3, [], 0) := by decide +kernel
theorem f222_153 : zF 222 153 = some (.iconst 0, 1, [], 0) := by decide +kernel
theorem f222_154 : zF 222 154 = some (.goto 13, 3, [], 0) := by decide +kernel
theorem f222_157 : zF 222 157 = some (.iload_n 1, 1, [], 0) := by decide +kernel
theorem f222_158 : zF 222 158 = some (.iconst 1, 1, [], 0) := by decide +kernel
theorem f222_159 : zF 222 159 = some (.if_icmp .ne 7, 3, [], 0) := by decide +kernel
theorem f222_162 : zF 222 162 = some (.iload_n 2, 1, [], 0) := by decide +kernel
theorem f222_163 : zF 222 163 = some (.goto 4, 3, [], 0) := by decide +kernel
theorem f222_166 : zF 222 166 = some (.iload_n 3, 1, [], 0) := by decide +kernel
theorem f222_167 : zF 222 167 = some (.ireturn, 1, [0], 0) := by decide +kernel
theorem f223_0 : zF 223 0 = some (.aload_n 0, 1, [], 0) := rfl
theorem f223_1 : zF 223 1 = some (.iload_n 1, 1, [], 0) := rfl
theorem f223_2 : zF 223 2 = some (.iload_n 2, 1, [], 0) := rfl
theorem f223_3 : zF 223 3 = some (.invokevirtual 196, 3, [0, 170, 10, 3, 3, 0, 0], 0) := rfl
theorem f223_6 : zF 223 6 = some (.ifCond .ne 20, 3, [], 0) := rfl
theorem f223_9 : zF 223 9 = some (.iload_n 3, 1, [], 0) := rfl
theorem f223_10 : zF 223 10 = some (.aload_n 0, 1, [], 0) := rfl
theorem f223_11 : zF 223 11 = some (.iload_n 1, 1, [], 0) := rfl
theorem f223_12 : zF 223 12 = some (.iload_n 2, 1, [], 0) := rfl
theorem f223_13 : zF 223 13 = some (.invokevirtual 199, 3, [0, 171, 10, 3, 3, 0, 0], 0) := rfl
theorem f223_16 : zF 223 16 = some (.invokestatic 165, 3, [1, 152, 0, 2, 2, 0, 0], 0) := rfl
theorem f223_19 : zF 223 19 = some (.ifCond .eq 7, 3, [], 0) := rfl
theorem f223_22 : zF 223 22 = some (.iconst 1, 1, [], 0) := rfl
theorem f223_23 : zF 223 23 = some (.goto 4, 3, [], 0) := rfl
theorem f223_26 : zF 223 26 = some (.iconst 0, 1, [], 0) := rfl
theorem f223_27 : zF 223 27 = some (.ireturn, 1, [1], 0) := rfl
theorem f224_0 : zF 224 0 = some (.iload_n 3, 1, [], 0) := rfl
theorem f224_1 : zF 224 1 = some (.aload_n 0, 1, [], 0) := rfl
theorem f224_2 : zF 224 2 = some (.getfield 51, 3, [10, 15, 2], 0) := rfl
theorem f224_5 : zF 224 5 = some (.iload_n 1, 1, [], 0) := rfl
theorem f224_6 : zF 224 6 = some (.iaload, 1, [], 0) := rfl
theorem f224_7 : zF 224 7 = some (.if_icmp .ge 23, 3, [], 0) := rfl
theorem f224_10 : zF 224 10 = some (.aload_n 0, 1, [], 0) := rfl
theorem f224_11 : zF 224 11 = some (.iload_n 1, 1, [], 0) := rfl
theorem f224_12 : zF 224 12 = some (.iload_n 3, 1, [], 0) := rfl
theorem f224_13 : zF 224 13 = some (.aload_n 0, 1, [], 0) := rfl
theorem f224_14 : zF 224 14 = some (.getfield 108, 3, [10, 42, 2], 0) := rfl
theorem f224_17 : zF 224 17 = some (.iload 4, 2, [], 0) := rfl
theorem f224_19 : zF 224 19 = some (.iaload, 1, [], 0) := rfl
theorem f224_20 : zF 224 20 = some (.invokevirtual 361, 3, [0, 223, 10, 4, 4, 0, 0], 0) := rfl
theorem f224_23 : zF 224 23 = some (.ifCond .ne 7, 3, [], 0) := rfl
theorem f224_26 : zF 224 26 = some (.iconst 1, 1, [], 0) := rfl
theorem f224_27 : zF 224 27 = some (.goto 4, 3, [], 0) := rfl
theorem f224_30 : zF 224 30 = some (.iconst 0, 1, [], 0) := rfl
theorem f224_31 : zF 224 31 = some (.istore 5, 2, [], 0) := rfl
theorem f224_33 : zF 224 33 = some (.iload 4, 2, [], 0) := rfl
theorem f224_35 : zF 224 35 = some (.aload_n 0, 1, [], 0) := rfl
theorem f224_36 : zF 224 36 = some (.getfield 51, 3, [10, 15, 2], 0) := rfl
theorem f224_39 : zF 224 39 = some (.iload_n 2, 1, [], 0) := rfl
theorem f224_40 : zF 224 40 = some (.iaload, 1, [], 0) := rfl
theorem f224_41 : zF 224 41 = some (.if_icmp .ge 23, 3, [], 0) := rfl
theorem f224_44 : zF 224 44 = some (.aload_n 0, 1, [], 0) := rfl
theorem f224_45 : zF 224 45 = some (.iload_n 2, 1, [], 0) := rfl
theorem f224_46 : zF 224 46 = some (.iload 4, 2, [], 0) := rfl
theorem f224_48 : zF 224 48 = some (.aload_n 0, 1, [], 0) := rfl
theorem f224_49 : zF 224 49 = some (.getfield 105, 3, [10, 41, 2], 0) := rfl
theorem f224_52 : zF 224 52 = some (.iload_n 3, 1, [], 0) := rfl
theorem f224_53 : zF 224 53 = some (.iaload, 1, [], 0) := rfl
theorem f224_54 : zF 224 54 = some (.invokevirtual 361, 3, [0, 223, 10, 4, 4, 0, 0], 0) := rfl
theorem f224_57 : zF 224 57 = some (.ifCond .ne 7, 3, [], 0) := rfl
theorem f224_60 : zF 224 60 = some (.iconst 1, 1, [], 0) := rfl
theorem f224_61 : zF 224 61 = some (.goto 4, 3, [], 0) := rfl
theorem f224_64 : zF 224 64 = some (.iconst 0, 1, [], 0) := rfl
theorem f224_65 : zF 224 65 = some (.istore 6, 2, [], 0) := rfl
theorem f224_67 : zF 224 67 = some (.aload_n 0, 1, [], 0) := rfl
theorem f224_68 : zF 224 68 = some (.getfield 99, 3, [10, 39, 2], 0) := rfl
theorem f224_71 : zF 224 71 = some (.bipush 31, 2, [], 0) := rfl
theorem f224_73 : zF 224 73 = some (.iload_n 3, 1, [], 0) := rfl
theorem f224_74 : zF 224 74 = some (.imul, 1, [], 0) := rfl
theorem f224_75 : zF 224 75 = some (.iload 4, 2, [], 0) := rfl
theorem f224_77 : zF 224 77 = some (.iadd, 1, [], 0) := rfl
theorem f224_78 : zF 224 78 = some (.laload, 1, [], 0) := rfl
theorem f224_79 : zF 224 79 = some (.lstore 7, 2, [], 0) := rfl
theorem f224_81 : zF 224 81 = some (.aload_n 0, 1, [], 0) := rfl
theorem f224_82 : zF 224 82 = some (.getfield 102, 3, [10, 40, 2], 0) := rfl
theorem f224_85 : zF 224 85 = some (.bipush 31, 2, [], 0) := rfl
theorem f224_87 : zF 224 87 = some (.iload_n 3, 1, [], 0) := rfl
theorem f224_88 : zF 224 88 = some (.imul, 1, [], 0) := rfl
theorem f224_89 : zF 224 89 = some (.iload 4, 2, [], 0) := rfl
theorem f224_91 : zF 224 91 = some (.iadd, 1, [], 0) := rfl
theorem f224_92 : zF 224 92 = some (.laload, 1, [], 0) := rfl
theorem f224_93 : zF 224 93 = some (.lstore 9, 2, [], 0) := rfl
theorem f224_95 : zF 224 95 = some (.iload 5, 2, [], 0) := rfl
theorem f224_97 : zF 224 97 = some (.ifCond .eq 57, 3, [], 0) := rfl
theorem f224_100 : zF 224 100 = some (.aload_n 0, 1, [], 0) := rfl
theorem f224_101 : zF 224 101 = some (.getfield 99, 3, [10, 39, 2], 0) := rfl
theorem f224_104 : zF 224 104 = some (.bipush 31, 2, [], 0) := rfl
theorem f224_106 : zF 224 106 = some (.iload_n 3, 1, [], 0) := rfl
theorem f224_107 : zF 224 107 = some (.imul, 1, [], 0) := rfl
theorem f224_108 : zF 224 108 = some (.bipush 31, 2, [], 0) := rfl
theorem f224_110 : zF 224 110 = some (.iadd, 1, [], 0) := rfl
theorem f224_111 : zF 224 111 = some (.iload 4, 2, [], 0) := rfl
theorem f224_113 : zF 224 113 = some (.iadd, 1, [], 0) := rfl
theorem f224_114 : zF 224 114 = some (.dup2, 1, [], 0) := rfl
theorem f224_115 : zF 224 115 = some (.laload, 1, [], 0) := rfl
theorem f224_116 : zF 224 116 = some (.lload 7, 2, [], 0) := rfl
theorem f224_118 : zF 224 118 = some (.ladd, 1, [], 0) := by decide +kernel
theorem f224_119 : zF 224 119 = some (.lastore, 1, [], 0) := by decide +kernel
theorem f224_120 : zF 224 120 = some (.aload_n 0, 1, [], 0) := by decide +kernel
theorem f224_121 : zF 224 121 = some (.getfield 102, 3, [10, 40, 2], 0) := by decide +kernel
theorem f224_124 : zF 224 124 = some (.bipush 31, 2, [], 0) := by decide +kernel
theorem f224_126 : zF 224 126 = some (.iload_n 3, 1, [], 0) := by decide +kernel
theorem f224_127 : zF 224 127 = some (.imul, 1, [], 0) := by decide +kernel
theorem f224_128 : zF 224 128 = some (.bipush 31, 2, [], 0) := by decide +kernel
theorem f224_130 : zF 224 130 = some (.iadd, 1, [], 0) := by decide +kernel
theorem f224_131 : zF 224 131 = some (.iload 4, 2, [], 0) := by decide +kernel
theorem f224_133 : zF 224 133 = some (.iadd, 1, [], 0) := by decide +kernel
theorem f224_134 : zF 224 134 = some (.dup2, 1, [], 0) := by decide +kernel
theorem f224_135 : zF 224 135 = some (.laload, 1, [], 0) := by decide +kernel
theorem f224_136 : zF 224 136 = some (.iload 6, 2, [], 0) := by decide +kernel
theorem f224_138 : zF 224 138 = some (.ifCond .eq 12, 3, [], 0) := by decide +kernel
theorem f224_141 : zF 224 141 = some (.lload 9, 2, [], 0) := by decide +kernel
theorem f224_143 : zF 224 143 = some (.ldc2_w 356, 3, [], 2) := by decide +kernel
theorem f224_146 : zF 224 146 = some (.ldiv, 1, [], 0) := by decide +kernel
theorem f224_147 : zF 224 147 = some (.goto 5, 3, [], 0) := by decide +kernel
theorem f224_150 : zF 224 150 = some (.lload 9, 2, [], 0) := by decide +kernel
theorem f224_152 : zF 224 152 = some (.ladd, 1, [], 0) := by decide +kernel
theorem f224_153 : zF 224 153 = some (.lastore, 1, [], 0) := by decide +kernel
theorem f224_154 : zF 224 154 = some (.iload 6, 2, [], 0) := by decide +kernel
theorem f224_156 : zF 224 156 = some (.ifCond .eq 55, 3, [], 0) := by decide +kernel
theorem f224_159 : zF 224 159 = some (.aload_n 0, 1, [], 0) := by decide +kernel
theorem f224_160 : zF 224 160 = some (.getfield 99, 3, [10, 39, 2], 0) := by decide +kernel
theorem f224_163 : zF 224 163 = some (.bipush 31, 2, [], 0) := by decide +kernel
theorem f224_165 : zF 224 165 = some (.iload_n 3, 1, [], 0) := by decide +kernel
theorem f224_166 : zF 224 166 = some (.imul, 1, [], 0) := by decide +kernel
theorem f224_167 : zF 224 167 = some (.iload 4, 2, [], 0) := by decide +kernel
theorem f224_169 : zF 224 169 = some (.iadd, 1, [], 0) := by decide +kernel
theorem f224_170 : zF 224 170 = some (.iconst 1, 1, [], 0) := by decide +kernel
theorem f224_171 : zF 224 171 = some (.iadd, 1, [], 0) := by decide +kernel
theorem f224_172 : zF 224 172 = some (.dup2, 1, [], 0) := by decide +kernel
theorem f224_173 : zF 224 173 = some (.laload, 1, [], 0) := by decide +kernel
theorem f224_174 : zF 224 174 = some (.lload 7, 2, [], 0) := by decide +kernel
theorem f224_176 : zF 224 176 = some (.ladd, 1, [], 0) := by decide +kernel
theorem f224_177 : zF 224 177 = some (.lastore, 1, [], 0) := by decide +kernel
theorem f224_178 : zF 224 178 = some (.aload_n 0, 1, [], 0) := by decide +kernel
theorem f224_179 : zF 224 179 = some (.getfield 102, 3, [10, 40, 2], 0) := by decide +kernel
theorem f224_182 : zF 224 182 = some (.bipush 31, 2, [], 0) := by decide +kernel
theorem f224_184 : zF 224 184 = some (.iload_n 3, 1, [], 0) := by decide +kernel
theorem f224_185 : zF 224 185 = some (.imul, 1, [], 0) := by decide +kernel
theorem f224_186 : zF 224 186 = some (.iload 4, 2, [], 0) := by decide +kernel
theorem f224_188 : zF 224 188 = some (.iadd, 1, [], 0) := by decide +kernel
theorem f224_189 : zF 224 189 = some (.iconst 1, 1, [], 0) := by decide +kernel
theorem f224_190 : zF 224 190 = some (.iadd, 1, [], 0) := by decide +kernel
theorem f224_191 : zF 224 191 = some (.dup2, 1, [], 0) := by decide +kernel
theorem f224_192 : zF 224 192 = some (.laload, 1, [], 0) := by decide +kernel
theorem f224_193 : zF 224 193 = some (.iload 5, 2, [], 0) := by decide +kernel
theorem f224_195 : zF 224 195 = some (.ifCond .eq 12, 3, [], 0) := by decide +kernel
theorem f224_198 : zF 224 198 = some (.lload 9, 2, [], 0) := by decide +kernel
theorem f224_200 : zF 224 200 = some (.ldc2_w 356, 3, [], 2) := by decide +kernel
theorem f224_203 : zF 224 203 = some (.ldiv, 1, [], 0) := by decide +kernel
theorem f224_204 : zF 224 204 = some (.goto 5, 3, [], 0) := by decide +kernel
theorem f224_207 : zF 224 207 = some (.lload 9, 2, [], 0) := by decide +kernel
theorem f224_209 : zF 224 209 = some (.ladd, 1, [], 0) := by decide +kernel
theorem f224_210 : zF 224 210 = some (.lastore, 1, [], 0) := by decide +kernel
theorem f224_211 : zF 224 211 = some (.iload 5, 2, [], 0) := by decide +kernel
theorem f224_213 : zF 224 213 = some (.ifCond .ne 43, 3, [], 0) := by decide +kernel
theorem f224_216 : zF 224 216 = some (.iload 6, 2, [], 0) := by decide +kernel
theorem f224_218 : zF 224 218 = some (.ifCond .ne 38, 3, [], 0) := by decide +kernel
theorem f224_221 : zF 224 221 = some (.iload_n 3, 1, [], 0) := by decide +kernel
theorem f224_222 : zF 224 222 = some (.aload_n 0, 1, [], 0) := by decide +kernel
theorem f224_223 : zF 224 223 = some (.getfield 51, 3, [10, 15, 2], 0) := by decide +kernel
theorem f224_226 : zF 224 226 = some (.iload_n 1, 1, [], 0) := by decide +kernel
theorem f224_227 : zF 224 227 = some (.iaload, 1, [], 0) := by decide +kernel
theorem f224_228 : zF 224 228 = some (.if_icmp .ne 28, 3, [], 0) := by decide +kernel
theorem f224_231 : zF 224 231 = some (.iload 4, 2, [], 0) := by decide +kernel
theorem f224_233 : zF 224 233 = some (.aload_n 0, 1, [], 0) := by decide +kernel
theorem f224_234 : zF 224 234 = some (.getfield 51, 3, [10, 15, 2], 0) := by decide +kernel
theorem f224_237 : zF 224 237 = some (.iload_n 2, 1, [], 0) := by decide +kernel
theorem f224_238 : zF 224 238 = some (.iaload, 1, [], 0) := by decide +kernel
theorem f224_239 : zF 224 239 = some (.if_icmp .ne 17, 3, [], 0) := by decide +kernel
theorem f224_242 : zF 224 242 = some (.aload_n 0, 1, [], 0) := by decide +kernel
theorem f224_243 : zF 224 243 = some (.dup, 1, [], 0) := by decide +kernel
theorem f224_244 : zF 224 244 = some (.getfield 365, 3, [10, 43, 1], 0) := by decide +kernel
theorem f224_247 : zF 224 247 = some (.lload 7, 2, [], 0) := by decide +kernel
theorem f224_249 : zF 224 249 = some (.ladd, 1, [], 0) := by decide +kernel
theorem f224_250 : zF 224 250 = some (.putfield 365, 3, [10, 43, 1], 0) := by decide +kernel
theorem f224_253 : zF 224 253 = some (.goto 68, 3, [], 0) := by decide +kernel
theorem f224_256 : zF 224 256 = some (.iload 5, 2, [], 0) := by decide +kernel
theorem f224_258 : zF 224 258 = some (.ifCond .ne 63, 3, [], 0) := by decide +kernel
theorem f224_261 : zF 224 261 = some (.iload 6, 2, [], 0) := by decide +kernel
theorem f224_263 : zF 224 263 = some (.ifCond .ne 58, 3, [], 0) := by decide +kernel
theorem f224_266 : zF 224 266 = some (.aload_n 0, 1, [], 0) := by decide +kernel
theorem f224_267 : zF 224 267 = some (.dup, 1, [], 0) := by decide +kernel
theorem f224_268 : zF 224 268 = some (.getfield 369, 3, [10, 44, 1], 0) := by decide +kernel
theorem f224_271 : zF 224 271 = some (.lload 7, 2, [], 0) := by decide +kernel
theorem f224_273 : zF 224 273 = some (.ladd, 1, [], 0) := by decide +kernel
theorem f224_274 : zF 224 274 = some (.putfield 369, 3, [10, 44, 1], 0) := by decide +kernel
theorem f224_277 : zF 224 277 = some (.aload_n 0, 1, [], 0) := by decide +kernel
theorem f224_278 : zF 224 278 = some (.dup, 1, [], 0) := by decide +kernel
theorem f224_279 : zF 224 279 = some (.getfield 372, 3, [10, 45, 1], 0) := by decide +kernel
theorem f224_282 : zF 224 282 = some (.lload 9, 2, [], 0) := by decide +kernel
theorem f224_284 : zF 224 284 = some (.ladd, 1, [], 0) := by decide +kernel
theorem f224_285 : zF 224 285 = some (.putfield 372, 3, [10, 45, 1], 0) := by decide +kernel
theorem f224_288 : zF 224 288 = some (.aload_n 0, 1, [], 0) := by decide +kernel
theorem f224_289 : zF 224 289 = some (.aload_n 0, 1, [], 0) := by decide +kernel
theorem f224_290 : zF 224 290 = some (.getfield 375, 3, [10, 46, 0], 0) := by decide +kernel
theorem f224_293 : zF 224 293 = some (.ifCond .lt 14, 3, [], 0) := by decide +kernel
theorem f224_296 : zF 224 296 = some (.iload_n 3, 1, [], 0) := by decide +kernel
theorem f224_297 : zF 224 297 = some (.iload 4, 2, [], 0) := by decide +kernel
theorem f224_299 : zF 224 299 = some (.iadd, 1, [], 0) := by decide +kernel
theorem f224_300 : zF 224 300 = some (.aload_n 0, 1, [], 0) := by decide +kernel
theorem f224_301 : zF 224 301 = some (.getfield 375, 3, [10, 46, 0], 0) := by decide +kernel
theorem f224_304 : zF 224 304 = some (.if_icmp .ge 10, 3, [], 0) := by decide +kernel
theorem f224_307 : zF 224 307 = some (.iload_n 3, 1, [], 0) := by decide +kernel
theorem f224_308 : zF 224 308 = some (.iload 4, 2, [], 0) := by decide +kernel
theorem f224_310 : zF 224 310 = some (.iadd, 1, [], 0) := by decide +kernel
theorem f224_311 : zF 224 311 = some (.goto 7, 3, [], 0) := by decide +kernel
theorem f224_314 : zF 224 314 = some (.aload_n 0, 1, [], 0) := by decide +kernel
theorem f224_315 : zF 224 315 = some (.getfield 375, 3, [10, 46, 0], 0) := by decide +kernel
theorem f224_318 : zF 224 318 = some (.putfield 375, 3, [10, 46, 0], 0) := by decide +kernel
theorem f224_321 : zF 224 321 = some (.return_, 1, [], 0) := by decide +kernel
theorem f225_0 : zF 225 0 = some (.iconst 0, 1, [], 0) := rfl
theorem f225_1 : zF 225 1 = some (.istore_n 3, 1, [], 0) := rfl
theorem f225_2 : zF 225 2 = some (.iload_n 3, 1, [], 0) := rfl
theorem f225_3 : zF 225 3 = some (.aload_n 0, 1, [], 0) := rfl
theorem f225_4 : zF 225 4 = some (.getfield 51, 3, [10, 15, 2], 0) := rfl
theorem f225_7 : zF 225 7 = some (.iload_n 1, 1, [], 0) := rfl
theorem f225_8 : zF 225 8 = some (.iaload, 1, [], 0) := rfl
theorem f225_9 : zF 225 9 = some (.if_icmp .gt 21, 3, [], 0) := rfl
theorem f225_12 : zF 225 12 = some (.aload_n 0, 1, [], 0) := rfl
theorem f225_13 : zF 225 13 = some (.getfield 105, 3, [10, 41, 2], 0) := rfl
theorem f225_16 : zF 225 16 = some (.iload_n 3, 1, [], 0) := rfl
theorem f225_17 : zF 225 17 = some (.aload_n 0, 1, [], 0) := rfl
theorem f225_18 : zF 225 18 = some (.iload_n 1, 1, [], 0) := rfl
theorem f225_19 : zF 225 19 = some (.iload_n 3, 1, [], 0) := rfl
theorem f225_20 : zF 225 20 = some (.invokevirtual 287, 3, [0, 193, 10, 3, 5, 0, 0], 0) := rfl
theorem f225_23 : zF 225 23 = some (.iastore, 1, [], 0) := rfl
theorem f225_24 : zF 225 24 = some (.iinc 3 1, 3, [], 0) := rfl
theorem f225_27 : zF 225 27 = some (.goto (-25), 3, [], 0) := rfl
theorem f225_30 : zF 225 30 = some (.iconst 0, 1, [], 0) := rfl
theorem f225_31 : zF 225 31 = some (.istore_n 3, 1, [], 0) := rfl
theorem f225_32 : zF 225 32 = some (.iload_n 3, 1, [], 0) := rfl
theorem f225_33 : zF 225 33 = some (.aload_n 0, 1, [], 0) := rfl
theorem f225_34 : zF 225 34 = some (.getfield 51, 3, [10, 15, 2], 0) := rfl
theorem f225_37 : zF 225 37 = some (.iload_n 2, 1, [], 0) := rfl
theorem f225_38 : zF 225 38 = some (.iaload, 1, [], 0) := rfl
theorem f225_39 : zF 225 39 = some (.if_icmp .gt 21, 3, [], 0) := rfl
theorem f225_42 : zF 225 42 = some (.aload_n 0, 1, [], 0) := rfl
theorem f225_43 : zF 225 43 = some (.getfield 108, 3, [10, 42, 2], 0) := rfl
theorem f225_46 : zF 225 46 = some (.iload_n 3, 1, [], 0) := rfl
theorem f225_47 : zF 225 47 = some (.aload_n 0, 1, [], 0) := rfl
theorem f225_48 : zF 225 48 = some (.iload_n 2, 1, [], 0) := rfl
theorem f225_49 : zF 225 49 = some (.iload_n 3, 1, [], 0) := rfl
theorem f225_50 : zF 225 50 = some (.invokevirtual 287, 3, [0, 193, 10, 3, 5, 0, 0], 0) := rfl
theorem f225_53 : zF 225 53 = some (.iastore, 1, [], 0) := rfl
theorem f225_54 : zF 225 54 = some (.iinc 3 1, 3, [], 0) := rfl
theorem f225_57 : zF 225 57 = some (.goto (-25), 3, [], 0) := rfl
theorem f225_60 : zF 225 60 = some (.iconst 0, 1, [], 0) := rfl
theorem f225_61 : zF 225 61 = some (.istore_n 3, 1, [], 0) := rfl
theorem f225_62 : zF 225 62 = some (.iload_n 3, 1, [], 0) := rfl
theorem f225_63 : zF 225 63 = some (.sipush 961, 3, [], 0) := rfl
theorem f225_66 : zF 225 66 = some (.if_icmp .ge 23, 3, [], 0) := rfl
theorem f225_69 : zF 225 69 = some (.aload_n 0, 1, [], 0) := rfl
theorem f225_70 : zF 225 70 = some (.getfield 99, 3, [10, 39, 2], 0) := rfl
theorem f225_73 : zF 225 73 = some (.iload_n 3, 1, [], 0) := rfl
theorem f225_74 : zF 225 74 = some (.lconst 0, 1, [], 0) := rfl
theorem f225_75 : zF 225 75 = some (.lastore, 1, [], 0) := rfl
theorem f225_76 : zF 225 76 = some (.aload_n 0, 1, [], 0) := rfl
theorem f225_77 : zF 225 77 = some (.getfield 102, 3, [10, 40, 2], 0) := rfl
theorem f225_80 : zF 225 80 = some (.iload_n 3, 1, [], 0) := rfl
theorem f225_81 : zF 225 81 = some (.lconst 0, 1, [], 0) := rfl
theorem f225_82 : zF 225 82 = some (.lastore, 1, [], 0) := rfl
theorem f225_83 : zF 225 83 = some (.iinc 3 1, 3, [], 0) := rfl
theorem f225_86 : zF 225 86 = some (.goto (-24), 3, [], 0) := rfl
theorem f225_89 : zF 225 89 = some (.aload_n 0, 1, [], 0) := rfl
theorem f225_90 : zF 225 90 = some (.getfield 99, 3, [10, 39, 2], 0) := rfl
theorem f225_93 : zF 225 93 = some (.iconst 0, 1, [], 0) := rfl
theorem f225_94 : zF 225 94 = some (.lconst 1, 1, [], 0) := rfl
theorem f225_95 : zF 225 95 = some (.lastore, 1, [], 0) := rfl
theorem f225_96 : zF 225 96 = some (.aload_n 0, 1, [], 0) := rfl
theorem f225_97 : zF 225 97 = some (.getfield 102, 3, [10, 40, 2], 0) := rfl
theorem f225_100 : zF 225 100 = some (.iconst 0, 1, [], 0) := rfl
theorem f225_101 : zF 225 101 = some (.ldc2_w 378, 3, [], 1152921504606846976) := rfl
theorem f225_104 : zF 225 104 = some (.lastore, 1, [], 0) := rfl
theorem f225_105 : zF 225 105 = some (.aload_n 0, 1, [], 0) := rfl
theorem f225_106 : zF 225 106 = some (.lconst 0, 1, [], 0) := rfl
theorem f225_107 : zF 225 107 = some (.putfield 365, 3, [10, 43, 1], 0) := rfl
theorem f225_110 : zF 225 110 = some (.aload_n 0, 1, [], 0) := rfl
theorem f225_111 : zF 225 111 = some (.lconst 0, 1, [], 0) := rfl
theorem f225_112 : zF 225 112 = some (.putfield 369, 3, [10, 44, 1], 0) := rfl
theorem f225_115 : zF 225 115 = some (.aload_n 0, 1, [], 0) := rfl
theorem f225_116 : zF 225 116 = some (.lconst 0, 1, [], 0) := by decide +kernel
theorem f225_117 : zF 225 117 = some (.putfield 372, 3, [10, 45, 1], 0) := by decide +kernel
theorem f225_120 : zF 225 120 = some (.aload_n 0, 1, [], 0) := by decide +kernel
theorem f225_121 : zF 225 121 = some (.bipush (-4), 2, [], 0) := by decide +kernel
theorem f225_123 : zF 225 123 = some (.putfield 375, 3, [10, 46, 0], 0) := by decide +kernel
theorem f225_126 : zF 225 126 = some (.iconst 0, 1, [], 0) := by decide +kernel
theorem f225_127 : zF 225 127 = some (.istore_n 3, 1, [], 0) := by decide +kernel
theorem f225_128 : zF 225 128 = some (.iload_n 3, 1, [], 0) := by decide +kernel
theorem f225_129 : zF 225 129 = some (.aload_n 0, 1, [], 0) := by decide +kernel
theorem f225_130 : zF 225 130 = some (.getfield 51, 3, [10, 15, 2], 0) := by decide +kernel
theorem f225_133 : zF 225 133 = some (.iload_n 1, 1, [], 0) := by decide +kernel
theorem f225_134 : zF 225 134 = some (.iaload, 1, [], 0) := by decide +kernel
theorem f225_135 : zF 225 135 = some (.if_icmp .gt 55, 3, [], 0) := by decide +kernel
theorem f225_138 : zF 225 138 = some (.iconst 0, 1, [], 0) := by decide +kernel
theorem f225_139 : zF 225 139 = some (.istore 4, 2, [], 0) := by decide +kernel
theorem f225_141 : zF 225 141 = some (.iload 4, 2, [], 0) := by decide +kernel
theorem f225_143 : zF 225 143 = some (.aload_n 0, 1, [], 0) := by decide +kernel
theorem f225_144 : zF 225 144 = some (.getfield 51, 3, [10, 15, 2], 0) := by decide +kernel
theorem f225_147 : zF 225 147 = some (.iload_n 2, 1, [], 0) := by decide +kernel
theorem f225_148 : zF 225 148 = some (.iaload, 1, [], 0) := by decide +kernel
theorem f225_149 : zF 225 149 = some (.if_icmp .gt 35, 3, [], 0) := by decide +kernel
theorem f225_152 : zF 225 152 = some (.aload_n 0, 1, [], 0) := by decide +kernel
theorem f225_153 : zF 225 153 = some (.getfield 99, 3, [10, 39, 2], 0) := by decide +kernel
theorem f225_156 : zF 225 156 = some (.bipush 31, 2, [], 0) := by decide +kernel
theorem f225_158 : zF 225 158 = some (.iload_n 3, 1, [], 0) := by decide +kernel
theorem f225_159 : zF 225 159 = some (.imul, 1, [], 0) := by decide +kernel
theorem f225_160 : zF 225 160 = some (.iload 4, 2, [], 0) := by decide +kernel
theorem f225_162 : zF 225 162 = some (.iadd, 1, [], 0) := by decide +kernel
theorem f225_163 : zF 225 163 = some (.laload, 1, [], 0) := by decide +kernel
theorem f225_164 : zF 225 164 = some (.lconst 0, 1, [], 0) := by decide +kernel
theorem f225_165 : zF 225 165 = some (.lcmp, 1, [], 0) := by decide +kernel
theorem f225_166 : zF 225 166 = some (.ifCond .le 12, 3, [], 0) := by decide +kernel
theorem f225_169 : zF 225 169 = some (.aload_n 0, 1, [], 0) := by decide +kernel
theorem f225_170 : zF 225 170 = some (.iload_n 1, 1, [], 0) := by decide +kernel
theorem f225_171 : zF 225 171 = some (.iload_n 2, 1, [], 0) := by decide +kernel
theorem f225_172 : zF 225 172 = some (.iload_n 3, 1, [], 0) := by decide +kernel
theorem f225_173 : zF 225 173 = some (.iload 4, 2, [], 0) := by decide +kernel
theorem f225_175 : zF 225 175 = some (.invokevirtual 380, 3, [0, 224, 10, 5, 11, 0, 0], 0) := by decide +kernel
theorem f225_178 : zF 225 178 = some (.iinc 4 1, 3, [], 0) := by decide +kernel
theorem f225_181 : zF 225 181 = some (.goto (-40), 3, [], 0) := by decide +kernel
theorem f225_184 : zF 225 184 = some (.iinc 3 1, 3, [], 0) := by decide +kernel
theorem f225_187 : zF 225 187 = some (.goto (-59), 3, [], 0) := by decide +kernel
theorem f225_190 : zF 225 190 = some (.return_, 1, [], 0) := by decide +kernel
theorem f226_0 : zF 226 0 = some (.iload_n 0, 1, [], 0) := rfl
theorem f226_1 : zF 226 1 = some (.i2l, 1, [], 0) := rfl
theorem f226_2 : zF 226 2 = some (.invokestatic 192, 3, [1, 154, 0, 1, 2, 0, 0], 0) := rfl
theorem f226_5 : zF 226 5 = some (.ifCond .eq 20, 3, [], 0) := rfl
theorem f226_8 : zF 226 8 = some (.iload_n 1, 1, [], 0) := rfl
theorem f226_9 : zF 226 9 = some (.i2l, 1, [], 0) := rfl
theorem f226_10 : zF 226 10 = some (.invokestatic 192, 3, [1, 154, 0, 1, 2, 0, 0], 0) := rfl
theorem f226_13 : zF 226 13 = some (.ifCond .eq 12, 3, [], 0) := rfl
theorem f226_16 : zF 226 16 = some (.iload_n 0, 1, [], 0) := rfl
theorem f226_17 : zF 226 17 = some (.iload_n 1, 1, [], 0) := rfl
theorem f226_18 : zF 226 18 = some (.if_icmp .eq 7, 3, [], 0) := rfl
theorem f226_21 : zF 226 21 = some (.iconst 1, 1, [], 0) := rfl
theorem f226_22 : zF 226 22 = some (.goto 4, 3, [], 0) := rfl
theorem f226_25 : zF 226 25 = some (.iconst 0, 1, [], 0) := rfl
theorem f226_26 : zF 226 26 = some (.ireturn, 1, [1], 0) := rfl
theorem f227_0 : zF 227 0 = some (.iload_n 1, 1, [], 0) := rfl
theorem f227_1 : zF 227 1 = some (.iload_n 2, 1, [], 0) := rfl
theorem f227_2 : zF 227 2 = some (.invokestatic 383, 3, [1, 226, 0, 2, 2, 0, 0], 0) := rfl
theorem f227_5 : zF 227 5 = some (.ifCond .eq 13, 3, [], 0) := rfl
theorem f227_8 : zF 227 8 = some (.iload_n 3, 1, [], 0) := rfl
theorem f227_9 : zF 227 9 = some (.i2l, 1, [], 0) := rfl
theorem f227_10 : zF 227 10 = some (.lconst 0, 1, [], 0) := rfl
theorem f227_11 : zF 227 11 = some (.lconst 1, 1, [], 0) := rfl
theorem f227_12 : zF 227 12 = some (.invokestatic 121, 3, [1, 151, 0, 3, 6, 0, 0], 0) := rfl
theorem f227_15 : zF 227 15 = some (.ifCond .ne 7, 3, [], 0) := rfl
theorem f227_18 : zF 227 18 = some (.ldc2_w 386, 3, [], (-1)) := rfl
theorem f227_21 : zF 227 21 = some (.lreturn, 1, [], 0) := rfl
theorem f227_22 : zF 227 22 = some (.aload_n 0, 1, [], 0) := rfl
theorem f227_23 : zF 227 23 = some (.iload_n 1, 1, [], 0) := rfl
theorem f227_24 : zF 227 24 = some (.iload_n 2, 1, [], 0) := rfl
theorem f227_25 : zF 227 25 = some (.invokevirtual 388, 3, [0, 225, 10, 3, 5, 0, 0], 0) := rfl
theorem f227_28 : zF 227 28 = some (.iload_n 3, 1, [], 0) := rfl
theorem f227_29 : zF 227 29 = some (.ifCond .ne 10, 3, [], 0) := rfl
theorem f227_32 : zF 227 32 = some (.aload_n 0, 1, [], 0) := rfl
theorem f227_33 : zF 227 33 = some (.getfield 365, 3, [10, 43, 1], 0) := rfl
theorem f227_36 : zF 227 36 = some (.goto 7, 3, [], 0) := rfl
theorem f227_39 : zF 227 39 = some (.aload_n 0, 1, [], 0) := rfl
theorem f227_40 : zF 227 40 = some (.getfield 369, 3, [10, 44, 1], 0) := rfl
theorem f227_43 : zF 227 43 = some (.lreturn, 1, [], 0) := rfl
theorem f228_0 : zF 228 0 = some (.iload_n 1, 1, [], 0) := rfl
theorem f228_1 : zF 228 1 = some (.iload_n 2, 1, [], 0) := rfl
theorem f228_2 : zF 228 2 = some (.invokestatic 383, 3, [1, 226, 0, 2, 2, 0, 0], 0) := rfl
theorem f228_5 : zF 228 5 = some (.ifCond .eq 13, 3, [], 0) := rfl
theorem f228_8 : zF 228 8 = some (.iload_n 3, 1, [], 0) := rfl
theorem f228_9 : zF 228 9 = some (.i2l, 1, [], 0) := rfl
theorem f228_10 : zF 228 10 = some (.lconst 0, 1, [], 0) := rfl
theorem f228_11 : zF 228 11 = some (.lconst 1, 1, [], 0) := rfl
theorem f228_12 : zF 228 12 = some (.invokestatic 121, 3, [1, 151, 0, 3, 6, 0, 0], 0) := rfl
theorem f228_15 : zF 228 15 = some (.ifCond .ne 7, 3, [], 0) := rfl
theorem f228_18 : zF 228 18 = some (.ldc2_w 386, 3, [], (-1)) := rfl
theorem f228_21 : zF 228 21 = some (.lreturn, 1, [], 0) := rfl
theorem f228_22 : zF 228 22 = some (.aload_n 0, 1, [], 0) := rfl
theorem f228_23 : zF 228 23 = some (.iload_n 1, 1, [], 0) := rfl
theorem f228_24 : zF 228 24 = some (.iload_n 2, 1, [], 0) := rfl
theorem f228_25 : zF 228 25 = some (.invokevirtual 388, 3, [0, 225, 10, 3, 5, 0, 0], 0) := rfl
theorem f228_28 : zF 228 28 = some (.aload_n 0, 1, [], 0) := rfl
theorem f228_29 : zF 228 29 = some (.getfield 372, 3, [10, 45, 1], 0) := rfl
theorem f228_32 : zF 228 32 = some (.lstore 4, 2, [], 0) := rfl
theorem f228_34 : zF 228 34 = some (.ldc2_w 378, 3, [], 1152921504606846976) := rfl
theorem f228_37 : zF 228 37 = some (.lstore 6, 2, [], 0) := rfl
theorem f228_39 : zF 228 39 = some (.lload 6, 2, [], 0) := rfl
theorem f228_41 : zF 228 41 = some (.lconst 1, 1, [], 0) := rfl
theorem f228_42 : zF 228 42 = some (.lcmp, 1, [], 0) := rfl
theorem f228_43 : zF 228 43 = some (.ifCond .le 33, 3, [], 0) := rfl
theorem f228_46 : zF 228 46 = some (.lload 4, 2, [], 0) := rfl
theorem f228_48 : zF 228 48 = some (.ldc2_w 356, 3, [], 2) := rfl
theorem f228_51 : zF 228 51 = some (.lrem, 1, [], 0) := rfl
theorem f228_52 : zF 228 52 = some (.lconst 0, 1, [], 0) := rfl
theorem f228_53 : zF 228 53 = some (.lcmp, 1, [], 0) := rfl
theorem f228_54 : zF 228 54 = some (.ifCond .ne 22, 3, [], 0) := rfl
theorem f228_57 : zF 228 57 = some (.lload 4, 2, [], 0) := rfl
theorem f228_59 : zF 228 59 = some (.ldc2_w 356, 3, [], 2) := rfl
theorem f228_62 : zF 228 62 = some (.ldiv, 1, [], 0) := rfl
theorem f228_63 : zF 228 63 = some (.lstore 4, 2, [], 0) := rfl
theorem f228_65 : zF 228 65 = some (.lload 6, 2, [], 0) := rfl
theorem f228_67 : zF 228 67 = some (.ldc2_w 356, 3, [], 2) := rfl
theorem f228_70 : zF 228 70 = some (.ldiv, 1, [], 0) := rfl
theorem f228_71 : zF 228 71 = some (.lstore 6, 2, [], 0) := rfl
theorem f228_73 : zF 228 73 = some (.goto (-34), 3, [], 0) := rfl
theorem f228_76 : zF 228 76 = some (.iload_n 3, 1, [], 0) := rfl
theorem f228_77 : zF 228 77 = some (.ifCond .ne 8, 3, [], 0) := rfl
theorem f228_80 : zF 228 80 = some (.lload 4, 2, [], 0) := rfl
theorem f228_82 : zF 228 82 = some (.goto 5, 3, [], 0) := rfl
theorem f228_85 : zF 228 85 = some (.lload 6, 2, [], 0) := rfl
theorem f228_87 : zF 228 87 = some (.lreturn, 1, [], 0) := rfl
theorem f229_0 : zF 229 0 = some (.iload_n 1, 1, [], 0) := rfl
theorem f229_1 : zF 229 1 = some (.iload_n 2, 1, [], 0) := rfl
theorem f229_2 : zF 229 2 = some (.invokestatic 383, 3, [1, 226, 0, 2, 2, 0, 0], 0) := rfl
theorem f229_5 : zF 229 5 = some (.ifCond .ne 5, 3, [], 0) := rfl
theorem f229_8 : zF 229 8 = some (.iconst (-1), 1, [], 0) := rfl
theorem f229_9 : zF 229 9 = some (.ireturn, 1, [0], 0) := rfl
theorem f229_10 : zF 229 10 = some (.aload_n 0, 1, [], 0) := rfl
theorem f229_11 : zF 229 11 = some (.iload_n 1, 1, [], 0) := rfl
theorem f229_12 : zF 229 12 = some (.iload_n 2, 1, [], 0) := rfl
theorem f229_13 : zF 229 13 = some (.invokevirtual 388, 3, [0, 225, 10, 3, 5, 0, 0], 0) := rfl
theorem f229_16 : zF 229 16 = some (.aload_n 0, 1, [], 0) := rfl
theorem f229_17 : zF 229 17 = some (.getfield 375, 3, [10, 46, 0], 0) := rfl
theorem f229_20 : zF 229 20 = some (.ireturn, 1, [0], 0) := rfl
theorem f230_0 : zF 230 0 = some (.iload_n 1, 1, [], 0) := rfl
theorem f230_1 : zF 230 1 = some (.i2l, 1, [], 0) := rfl
theorem f230_2 : zF 230 2 = some (.lconst 1, 1, [], 0) := rfl
theorem f230_3 : zF 230 3 = some (.ldc2_w 321, 3, [], 40) := rfl
theorem f230_6 : zF 230 6 = some (.invokestatic 121, 3, [1, 151, 0, 3, 6, 0, 0], 0) := rfl
theorem f230_9 : zF 230 9 = some (.ifCond .ne 5, 3, [], 0) := rfl
theorem f230_12 : zF 230 12 = some (.iconst (-1), 1, [], 0) := rfl
theorem f230_13 : zF 230 13 = some (.ireturn, 1, [0], 0) := rfl
theorem f230_14 : zF 230 14 = some (.iconst 0, 1, [], 0) := rfl
theorem f230_15 : zF 230 15 = some (.istore_n 2, 1, [], 0) := rfl
theorem f230_16 : zF 230 16 = some (.iload_n 2, 1, [], 0) := rfl
theorem f230_17 : zF 230 17 = some (.iload_n 1, 1, [], 0) := rfl
theorem f230_18 : zF 230 18 = some (.if_icmp .ge 94, 3, [], 0) := rfl
theorem f230_21 : zF 230 21 = some (.aload_n 0, 1, [], 0) := rfl
theorem f230_22 : zF 230 22 = some (.invokevirtual 258, 3, [0, 174, 10, 1, 2, 0, 0], 0) := rfl
theorem f230_25 : zF 230 25 = some (.aload_n 0, 1, [], 0) := rfl
theorem f230_26 : zF 230 26 = some (.invokevirtual 246, 3, [0, 175, 10, 1, 2, 0, 0], 0) := rfl
theorem f230_29 : zF 230 29 = some (.aload_n 0, 1, [], 0) := rfl
theorem f230_30 : zF 230 30 = some (.invokevirtual 326, 3, [0, 205, 10, 1, 1, 0, 0], 0) := rfl
theorem f230_33 : zF 230 33 = some (.istore_n 3, 1, [], 0) := rfl
theorem f230_34 : zF 230 34 = some (.iload_n 3, 1, [], 0) := rfl
theorem f230_35 : zF 230 35 = some (.bipush 8, 2, [], 0) := rfl
theorem f230_37 : zF 230 37 = some (.irem, 1, [], 0) := rfl
theorem f230_38 : zF 230 38 = some (.istore 4, 2, [], 0) := rfl
theorem f230_40 : zF 230 40 = some (.iload_n 3, 1, [], 0) := rfl
theorem f230_41 : zF 230 41 = some (.bipush 8, 2, [], 0) := rfl
theorem f230_43 : zF 230 43 = some (.idiv, 1, [], 0) := rfl
theorem f230_44 : zF 230 44 = some (.iconst 4, 1, [], 0) := rfl
theorem f230_45 : zF 230 45 = some (.irem, 1, [], 0) := rfl
theorem f230_46 : zF 230 46 = some (.istore 5, 2, [], 0) := rfl
theorem f230_48 : zF 230 48 = some (.aload_n 0, 1, [], 0) := rfl
theorem f230_49 : zF 230 49 = some (.iload 4, 2, [], 0) := rfl
theorem f230_51 : zF 230 51 = some (.bipush 6, 2, [], 0) := rfl
theorem f230_53 : zF 230 53 = some (.if_icmp .ne 10, 3, [], 0) := rfl
theorem f230_56 : zF 230 56 = some (.aload_n 0, 1, [], 0) := rfl
theorem f230_57 : zF 230 57 = some (.invokevirtual 337, 3, [0, 209, 10, 1, 3, 0, 0], 0) := rfl
theorem f230_60 : zF 230 60 = some (.goto 43, 3, [], 0) := rfl
theorem f230_63 : zF 230 63 = some (.iload 4, 2, [], 0) := rfl
theorem f230_65 : zF 230 65 = some (.bipush 7, 2, [], 0) := rfl
theorem f230_67 : zF 230 67 = some (.if_icmp .ne 16, 3, [], 0) := rfl
theorem f230_70 : zF 230 70 = some (.aload_n 0, 1, [], 0) := rfl
theorem f230_71 : zF 230 71 = some (.iload_n 3, 1, [], 0) := rfl
theorem f230_72 : zF 230 72 = some (.bipush 8, 2, [], 0) := rfl
theorem f230_74 : zF 230 74 = some (.idiv, 1, [], 0) := rfl
theorem f230_75 : zF 230 75 = some (.iconst 5, 1, [], 0) := rfl
theorem f230_76 : zF 230 76 = some (.irem, 1, [], 0) := rfl
theorem f230_77 : zF 230 77 = some (.invokevirtual 340, 3, [0, 210, 10, 2, 3, 0, 0], 0) := rfl
theorem f230_80 : zF 230 80 = some (.goto 23, 3, [], 0) := rfl
theorem f230_83 : zF 230 83 = some (.aload_n 0, 1, [], 0) := rfl
theorem f230_84 : zF 230 84 = some (.iload 5, 2, [], 0) := rfl
theorem f230_86 : zF 230 86 = some (.invokevirtual 308, 3, [0, 201, 10, 2, 2, 0, 0], 0) := rfl
theorem f230_89 : zF 230 89 = some (.ifCond .eq 8, 3, [], 0) := rfl
theorem f230_92 : zF 230 92 = some (.bipush (-2), 2, [], 0) := rfl
theorem f230_94 : zF 230 94 = some (.goto 9, 3, [], 0) := rfl
theorem f230_97 : zF 230 97 = some (.aload_n 0, 1, [], 0) := rfl
theorem f230_98 : zF 230 98 = some (.iload 5, 2, [], 0) := rfl
theorem f230_100 : zF 230 100 = some (.invokevirtual 311, 3, [0, 202, 10, 2, 4, 0, 0], 0) := rfl
theorem f230_103 : zF 230 103 = some (.putfield 332, 3, [10, 37, 0], 0) := rfl
theorem f230_106 : zF 230 106 = some (.iinc 2 1, 3, [], 0) := rfl
theorem f230_109 : zF 230 109 = some (.goto (-93), 3, [], 0) := rfl
theorem f230_112 : zF 230 112 = some (.aload_n 0, 1, [], 0) := rfl
theorem f230_113 : zF 230 113 = some (.iconst 0, 1, [], 0) := rfl
theorem f230_114 : zF 230 114 = some (.invokevirtual 347, 3, [0, 216, 10, 2, 4, 0, 0], 0) := rfl
theorem f230_117 : zF 230 117 = some (.ireturn, 1, [0], 0) := rfl
theorem f231_0 : zF 231 0 = some (.aload_n 0, 1, [], 0) := rfl
theorem f231_1 : zF 231 1 = some (.getfield 202, 3, [10, 2, 0], 0) := rfl
theorem f231_4 : zF 231 4 = some (.ifCond .ne 6, 3, [], 0) := rfl
theorem f231_7 : zF 231 7 = some (.bipush (-4), 2, [], 0) := rfl
theorem f231_9 : zF 231 9 = some (.ireturn, 1, [0], 0) := rfl
theorem f231_10 : zF 231 10 = some (.aload_n 0, 1, [], 0) := rfl
theorem f231_11 : zF 231 11 = some (.dup, 1, [], 0) := rfl
theorem f231_12 : zF 231 12 = some (.getfield 202, 3, [10, 2, 0], 0) := rfl
theorem f231_15 : zF 231 15 = some (.iconst 1, 1, [], 0) := rfl
theorem f231_16 : zF 231 16 = some (.isub, 1, [], 0) := rfl
theorem f231_17 : zF 231 17 = some (.putfield 202, 3, [10, 2, 0], 0) := rfl
theorem f231_20 : zF 231 20 = some (.iconst 0, 1, [], 0) := rfl
theorem f231_21 : zF 231 21 = some (.istore_n 1, 1, [], 0) := rfl
theorem f231_22 : zF 231 22 = some (.iload_n 1, 1, [], 0) := rfl
theorem f231_23 : zF 231 23 = some (.sipush 270, 3, [], 0) := rfl
theorem f231_26 : zF 231 26 = some (.if_icmp .ge 30, 3, [], 0) := rfl
theorem f231_29 : zF 231 29 = some (.aload_n 0, 1, [], 0) := rfl
theorem f231_30 : zF 231 30 = some (.getfield 7, 3, [10, 0, 2], 0) := rfl
theorem f231_33 : zF 231 33 = some (.iload_n 1, 1, [], 0) := rfl
theorem f231_34 : zF 231 34 = some (.aload_n 0, 1, [], 0) := rfl
theorem f231_35 : zF 231 35 = some (.getfield 13, 3, [10, 1, 2], 0) := rfl
theorem f231_38 : zF 231 38 = some (.sipush 270, 3, [], 0) := rfl
theorem f231_41 : zF 231 41 = some (.aload_n 0, 1, [], 0) := rfl
theorem f231_42 : zF 231 42 = some (.getfield 202, 3, [10, 2, 0], 0) := rfl
theorem f231_45 : zF 231 45 = some (.imul, 1, [], 0) := rfl
theorem f231_46 : zF 231 46 = some (.iload_n 1, 1, [], 0) := rfl
theorem f231_47 : zF 231 47 = some (.iadd, 1, [], 0) := rfl
theorem f231_48 : zF 231 48 = some (.iaload, 1, [], 0) := rfl
theorem f231_49 : zF 231 49 = some (.iastore, 1, [], 0) := rfl
theorem f231_50 : zF 231 50 = some (.iinc 1 1, 3, [], 0) := rfl
theorem f231_53 : zF 231 53 = some (.goto (-31), 3, [], 0) := rfl
theorem f231_56 : zF 231 56 = some (.aload_n 0, 1, [], 0) := rfl
theorem f231_57 : zF 231 57 = some (.invokevirtual 115, 3, [0, 169, 10, 1, 2, 0, 0], 0) := rfl
theorem f231_60 : zF 231 60 = some (.ifCond .eq 10, 3, [], 0) := rfl
theorem f231_63 : zF 231 63 = some (.aload_n 0, 1, [], 0) := rfl
theorem f231_64 : zF 231 64 = some (.getfield 202, 3, [10, 2, 0], 0) := rfl
theorem f231_67 : zF 231 67 = some (.goto 4, 3, [], 0) := rfl
theorem f231_70 : zF 231 70 = some (.iconst (-1), 1, [], 0) := rfl
theorem f231_71 : zF 231 71 = some (.ireturn, 1, [0], 0) := rfl
theorem f232_0 : zF 232 0 = some (.iload_n 1, 1, [], 0) := rfl
theorem f232_1 : zF 232 1 = some (.ifCond .ge 5, 3, [], 0) := rfl
theorem f232_4 : zF 232 4 = some (.iconst (-1), 1, [], 0) := rfl
theorem f232_5 : zF 232 5 = some (.ireturn, 1, [0], 0) := rfl
theorem f232_6 : zF 232 6 = some (.aload_n 0, 1, [], 0) := rfl
theorem f232_7 : zF 232 7 = some (.getfield 7, 3, [10, 0, 2], 0) := rfl
theorem f232_10 : zF 232 10 = some (.iconst 3, 1, [], 0) := rfl
theorem f232_11 : zF 232 11 = some (.iaload, 1, [], 0) := rfl
theorem f232_12 : zF 232 12 = some (.istore_n 2, 1, [], 0) := rfl
theorem f232_13 : zF 232 13 = some (.aload_n 0, 1, [], 0) := rfl
theorem f232_14 : zF 232 14 = some (.getfield 7, 3, [10, 0, 2], 0) := rfl
theorem f232_17 : zF 232 17 = some (.iconst 3, 1, [], 0) := rfl
theorem f232_18 : zF 232 18 = some (.iload_n 1, 1, [], 0) := rfl
theorem f232_19 : zF 232 19 = some (.iastore, 1, [], 0) := rfl
theorem f232_20 : zF 232 20 = some (.iload_n 2, 1, [], 0) := rfl
theorem f232_21 : zF 232 21 = some (.ireturn, 1, [0], 0) := rfl
theorem f233_0 : zF 233 0 = some (.iconst 0, 1, [], 0) := rfl
theorem f233_1 : zF 233 1 = some (.istore_n 1, 1, [], 0) := rfl
theorem f233_2 : zF 233 2 = some (.iload_n 1, 1, [], 0) := rfl
theorem f233_3 : zF 233 3 = some (.sipush 270, 3, [], 0) := rfl
theorem f233_6 : zF 233 6 = some (.if_icmp .ge 21, 3, [], 0) := rfl
theorem f233_9 : zF 233 9 = some (.aload_n 0, 1, [], 0) := rfl
theorem f233_10 : zF 233 10 = some (.getfield 16, 3, [10, 3, 2], 0) := rfl
theorem f233_13 : zF 233 13 = some (.iload_n 1, 1, [], 0) := rfl
theorem f233_14 : zF 233 14 = some (.aload_n 0, 1, [], 0) := rfl
theorem f233_15 : zF 233 15 = some (.getfield 7, 3, [10, 0, 2], 0) := rfl
theorem f233_18 : zF 233 18 = some (.iload_n 1, 1, [], 0) := rfl
theorem f233_19 : zF 233 19 = some (.iaload, 1, [], 0) := rfl
theorem f233_20 : zF 233 20 = some (.iastore, 1, [], 0) := rfl
theorem f233_21 : zF 233 21 = some (.iinc 1 1, 3, [], 0) := rfl
theorem f233_24 : zF 233 24 = some (.goto (-22), 3, [], 0) := rfl
theorem f233_27 : zF 233 27 = some (.iconst 0, 1, [], 0) := rfl
theorem f233_28 : zF 233 28 = some (.istore_n 1, 1, [], 0) := rfl
theorem f233_29 : zF 233 29 = some (.iload_n 1, 1, [], 0) := rfl
theorem f233_30 : zF 233 30 = some (.sipush 1620, 3, [], 0) := rfl
theorem f233_33 : zF 233 33 = some (.if_icmp .ge 21, 3, [], 0) := rfl
theorem f233_36 : zF 233 36 = some (.aload_n 0, 1, [], 0) := rfl
theorem f233_37 : zF 233 37 = some (.getfield 19, 3, [10, 4, 2], 0) := rfl
theorem f233_40 : zF 233 40 = some (.iload_n 1, 1, [], 0) := rfl
theorem f233_41 : zF 233 41 = some (.aload_n 0, 1, [], 0) := rfl
theorem f233_42 : zF 233 42 = some (.getfield 13, 3, [10, 1, 2], 0) := rfl
theorem f233_45 : zF 233 45 = some (.iload_n 1, 1, [], 0) := rfl
theorem f233_46 : zF 233 46 = some (.iaload, 1, [], 0) := rfl
theorem f233_47 : zF 233 47 = some (.iastore, 1, [], 0) := rfl
theorem f233_48 : zF 233 48 = some (.iinc 1 1, 3, [], 0) := rfl
theorem f233_51 : zF 233 51 = some (.goto (-22), 3, [], 0) := rfl
theorem f233_54 : zF 233 54 = some (.aload_n 0, 1, [], 0) := rfl
theorem f233_55 : zF 233 55 = some (.aload_n 0, 1, [], 0) := rfl
theorem f233_56 : zF 233 56 = some (.getfield 202, 3, [10, 2, 0], 0) := rfl
theorem f233_59 : zF 233 59 = some (.putfield 22, 3, [10, 5, 0], 0) := rfl
theorem f233_62 : zF 233 62 = some (.iconst 1, 1, [], 0) := rfl
theorem f233_63 : zF 233 63 = some (.ireturn, 1, [0], 0) := rfl
theorem f234_0 : zF 234 0 = some (.aload_n 0, 1, [], 0) := rfl
theorem f234_1 : zF 234 1 = some (.getfield 22, 3, [10, 5, 0], 0) := rfl
theorem f234_4 : zF 234 4 = some (.ifCond .ge 6, 3, [], 0) := rfl
theorem f234_7 : zF 234 7 = some (.bipush (-4), 2, [], 0) := rfl
theorem f234_9 : zF 234 9 = some (.ireturn, 1, [0], 0) := rfl
theorem f234_10 : zF 234 10 = some (.iconst 0, 1, [], 0) := rfl
theorem f234_11 : zF 234 11 = some (.istore_n 1, 1, [], 0) := rfl
theorem f234_12 : zF 234 12 = some (.iload_n 1, 1, [], 0) := rfl
theorem f234_13 : zF 234 13 = some (.sipush 270, 3, [], 0) := rfl
theorem f234_16 : zF 234 16 = some (.if_icmp .ge 21, 3, [], 0) := rfl
theorem f234_19 : zF 234 19 = some (.aload_n 0, 1, [], 0) := rfl
theorem f234_20 : zF 234 20 = some (.getfield 7, 3, [10, 0, 2], 0) := rfl
theorem f234_23 : zF 234 23 = some (.iload_n 1, 1, [], 0) := rfl
theorem f234_24 : zF 234 24 = some (.aload_n 0, 1, [], 0) := rfl
theorem f234_25 : zF 234 25 = some (.getfield 16, 3, [10, 3, 2], 0) := rfl
theorem f234_28 : zF 234 28 = some (.iload_n 1, 1, [], 0) := rfl
theorem f234_29 : zF 234 29 = some (.iaload, 1, [], 0) := rfl
theorem f234_30 : zF 234 30 = some (.iastore, 1, [], 0) := rfl
theorem f234_31 : zF 234 31 = some (.iinc 1 1, 3, [], 0) := rfl
theorem f234_34 : zF 234 34 = some (.goto (-22), 3, [], 0) := rfl
theorem f234_37 : zF 234 37 = some (.iconst 0, 1, [], 0) := rfl
theorem f234_38 : zF 234 38 = some (.istore_n 1, 1, [], 0) := rfl
theorem f234_39 : zF 234 39 = some (.iload_n 1, 1, [], 0) := rfl
theorem f234_40 : zF 234 40 = some (.sipush 1620, 3, [], 0) := rfl
theorem f234_43 : zF 234 43 = some (.if_icmp .ge 21, 3, [], 0) := rfl
theorem f234_46 : zF 234 46 = some (.aload_n 0, 1, [], 0) := rfl
theorem f234_47 : zF 234 47 = some (.getfield 13, 3, [10, 1, 2], 0) := rfl
theorem f234_50 : zF 234 50 = some (.iload_n 1, 1, [], 0) := rfl
theorem f234_51 : zF 234 51 = some (.aload_n 0, 1, [], 0) := rfl
theorem f234_52 : zF 234 52 = some (.getfield 19, 3, [10, 4, 2], 0) := rfl
theorem f234_55 : zF 234 55 = some (.iload_n 1, 1, [], 0) := rfl
theorem f234_56 : zF 234 56 = some (.iaload, 1, [], 0) := rfl
theorem f234_57 : zF 234 57 = some (.iastore, 1, [], 0) := rfl
theorem f234_58 : zF 234 58 = some (.iinc 1 1, 3, [], 0) := rfl
theorem f234_61 : zF 234 61 = some (.goto (-22), 3, [], 0) := rfl
theorem f234_64 : zF 234 64 = some (.aload_n 0, 1, [], 0) := rfl
theorem f234_65 : zF 234 65 = some (.aload_n 0, 1, [], 0) := rfl
theorem f234_66 : zF 234 66 = some (.getfield 22, 3, [10, 5, 0], 0) := rfl
theorem f234_69 : zF 234 69 = some (.putfield 202, 3, [10, 2, 0], 0) := rfl
theorem f234_72 : zF 234 72 = some (.aload_n 0, 1, [], 0) := rfl
theorem f234_73 : zF 234 73 = some (.invokevirtual 115, 3, [0, 169, 10, 1, 2, 0, 0], 0) := rfl
theorem f234_76 : zF 234 76 = some (.ifCond .eq 7, 3, [], 0) := rfl
theorem f234_79 : zF 234 79 = some (.iconst 1, 1, [], 0) := rfl
theorem f234_80 : zF 234 80 = some (.goto 4, 3, [], 0) := rfl
theorem f234_83 : zF 234 83 = some (.iconst (-1), 1, [], 0) := rfl
theorem f234_84 : zF 234 84 = some (.ireturn, 1, [0], 0) := rfl
theorem f235_0 : zF 235 0 = some (.iload_n 0, 1, [], 0) := rfl
theorem f235_1 : zF 235 1 = some (.i2l, 1, [], 0) := rfl
theorem f235_2 : zF 235 2 = some (.lconst 0, 1, [], 0) := rfl
theorem f235_3 : zF 235 3 = some (.ldc2_w 119, 3, [], 3) := rfl
theorem f235_6 : zF 235 6 = some (.invokestatic 121, 3, [1, 151, 0, 3, 6, 0, 0], 0) := rfl
theorem f235_9 : zF 235 9 = some (.ireturn, 1, [1], 0) := rfl
theorem f236_0 : zF 236 0 = some (.iload_n 0, 1, [], 0) := rfl
theorem f236_1 : zF 236 1 = some (.ifCond .ne 10, 3, [], 0) := rfl
theorem f236_4 : zF 236 4 = some (.lload_n 1, 1, [], 0) := rfl
theorem f236_5 : zF 236 5 = some (.l2i, 1, [], 0) := rfl
theorem f236_6 : zF 236 6 = some (.i2b, 1, [], 0) := rfl
theorem f236_7 : zF 236 7 = some (.i2l, 1, [], 0) := rfl
theorem f236_8 : zF 236 8 = some (.goto 27, 3, [], 0) := rfl
theorem f236_11 : zF 236 11 = some (.iload_n 0, 1, [], 0) := rfl
theorem f236_12 : zF 236 12 = some (.iconst 1, 1, [], 0) := rfl
theorem f236_13 : zF 236 13 = some (.if_icmp .ne 10, 3, [], 0) := rfl
theorem f236_16 : zF 236 16 = some (.lload_n 1, 1, [], 0) := rfl
theorem f236_17 : zF 236 17 = some (.l2i, 1, [], 0) := rfl
theorem f236_18 : zF 236 18 = some (.i2s, 1, [], 0) := rfl
theorem f236_19 : zF 236 19 = some (.i2l, 1, [], 0) := rfl
theorem f236_20 : zF 236 20 = some (.goto 15, 3, [], 0) := rfl
theorem f236_23 : zF 236 23 = some (.iload_n 0, 1, [], 0) := rfl
theorem f236_24 : zF 236 24 = some (.iconst 2, 1, [], 0) := rfl
theorem f236_25 : zF 236 25 = some (.if_icmp .ne 9, 3, [], 0) := rfl
theorem f236_28 : zF 236 28 = some (.lload_n 1, 1, [], 0) := rfl
theorem f236_29 : zF 236 29 = some (.l2i, 1, [], 0) := rfl
theorem f236_30 : zF 236 30 = some (.i2l, 1, [], 0) := rfl
theorem f236_31 : zF 236 31 = some (.goto 4, 3, [], 0) := rfl
theorem f236_34 : zF 236 34 = some (.lload_n 1, 1, [], 0) := rfl
theorem f236_35 : zF 236 35 = some (.lreturn, 1, [], 0) := rfl
theorem f237_0 : zF 237 0 = some (.aload_n 0, 1, [], 0) := rfl
theorem f237_1 : zF 237 1 = some (.getfield 29, 3, [10, 8, 2], 0) := rfl
theorem f237_4 : zF 237 4 = some (.iload_n 1, 1, [], 0) := rfl
theorem f237_5 : zF 237 5 = some (.iaload, 1, [], 0) := rfl
theorem f237_6 : zF 237 6 = some (.ifCond .ge 6, 3, [], 0) := rfl
theorem f237_9 : zF 237 9 = some (.bipush (-11), 2, [], 0) := rfl
theorem f237_11 : zF 237 11 = some (.ireturn, 1, [0], 0) := rfl
theorem f237_12 : zF 237 12 = some (.aload_n 0, 1, [], 0) := rfl
theorem f237_13 : zF 237 13 = some (.getfield 29, 3, [10, 8, 2], 0) := rfl
theorem f237_16 : zF 237 16 = some (.iload_n 1, 1, [], 0) := rfl
theorem f237_17 : zF 237 17 = some (.iaload, 1, [], 0) := rfl
theorem f237_18 : zF 237 18 = some (.iload_n 2, 1, [], 0) := rfl
theorem f237_19 : zF 237 19 = some (.if_icmp .eq 6, 3, [], 0) := rfl
theorem f237_22 : zF 237 22 = some (.bipush (-12), 2, [], 0) := rfl
theorem f237_24 : zF 237 24 = some (.ireturn, 1, [0], 0) := rfl
theorem f237_25 : zF 237 25 = some (.iload_n 3, 1, [], 0) := rfl
theorem f237_26 : zF 237 26 = some (.ifCond .lt 16, 3, [], 0) := rfl
theorem f237_29 : zF 237 29 = some (.iload 4, 2, [], 0) := rfl
theorem f237_31 : zF 237 31 = some (.aload_n 0, 1, [], 0) := rfl
theorem f237_32 : zF 237 32 = some (.getfield 32, 3, [10, 9, 2], 0) := rfl
theorem f237_35 : zF 237 35 = some (.iload_n 1, 1, [], 0) := rfl
theorem f237_36 : zF 237 36 = some (.iaload, 1, [], 0) := rfl
theorem f237_37 : zF 237 37 = some (.iload_n 3, 1, [], 0) := rfl
theorem f237_38 : zF 237 38 = some (.isub, 1, [], 0) := rfl
theorem f237_39 : zF 237 39 = some (.if_icmp .le 8, 3, [], 0) := rfl
theorem f237_42 : zF 237 42 = some (.bipush (-13), 2, [], 0) := rfl
theorem f237_44 : zF 237 44 = some (.goto 4, 3, [], 0) := rfl
theorem f237_47 : zF 237 47 = some (.iconst 0, 1, [], 0) := rfl
theorem f237_48 : zF 237 48 = some (.ireturn, 1, [0], 0) := rfl
theorem f238_0 : zF 238 0 = some (.iload_n 1, 1, [], 0) := rfl
theorem f238_1 : zF 238 1 = some (.invokestatic 391, 3, [1, 235, 0, 1, 1, 0, 0], 0) := rfl
theorem f238_4 : zF 238 4 = some (.ifCond .eq 28, 3, [], 0) := rfl
theorem f238_7 : zF 238 7 = some (.iload_n 2, 1, [], 0) := rfl
theorem f238_8 : zF 238 8 = some (.i2l, 1, [], 0) := rfl
theorem f238_9 : zF 238 9 = some (.lconst 0, 1, [], 0) := rfl
theorem f238_10 : zF 238 10 = some (.ldc2_w 119, 3, [], 3) := rfl
theorem f238_13 : zF 238 13 = some (.invokestatic 121, 3, [1, 151, 0, 3, 6, 0, 0], 0) := rfl
theorem f238_16 : zF 238 16 = some (.ifCond .eq 16, 3, [], 0) := rfl
theorem f238_19 : zF 238 19 = some (.iload 4, 2, [], 0) := rfl
theorem f238_21 : zF 238 21 = some (.i2l, 1, [], 0) := rfl
theorem f238_22 : zF 238 22 = some (.lconst 1, 1, [], 0) := rfl
theorem f238_23 : zF 238 23 = some (.ldc2_w 394, 3, [], 24) := rfl
theorem f238_26 : zF 238 26 = some (.invokestatic 121, 3, [1, 151, 0, 3, 6, 0, 0], 0) := rfl
theorem f238_29 : zF 238 29 = some (.ifCond .ne 5, 3, [], 0) := rfl
theorem f238_32 : zF 238 32 = some (.iconst (-1), 1, [], 0) := rfl
theorem f238_33 : zF 238 33 = some (.ireturn, 1, [0], 0) := rfl
theorem f238_34 : zF 238 34 = some (.aload_n 0, 1, [], 0) := rfl
theorem f238_35 : zF 238 35 = some (.iload_n 1, 1, [], 0) := rfl
theorem f238_36 : zF 238 36 = some (.iload_n 2, 1, [], 0) := rfl
theorem f238_37 : zF 238 37 = some (.iload_n 3, 1, [], 0) := rfl
theorem f238_38 : zF 238 38 = some (.iload 4, 2, [], 0) := rfl
theorem f238_40 : zF 238 40 = some (.invokevirtual 396, 3, [0, 237, 10, 5, 5, 0, 0], 0) := rfl
theorem f238_43 : zF 238 43 = some (.istore 5, 2, [], 0) := rfl
theorem f238_45 : zF 238 45 = some (.iload 5, 2, [], 0) := rfl
theorem f238_47 : zF 238 47 = some (.ifCond .ge 6, 3, [], 0) := rfl
theorem f238_50 : zF 238 50 = some (.iload 5, 2, [], 0) := rfl
theorem f238_52 : zF 238 52 = some (.ireturn, 1, [0], 0) := rfl
theorem f238_53 : zF 238 53 = some (.iconst 0, 1, [], 0) := rfl
theorem f238_54 : zF 238 54 = some (.istore 6, 2, [], 0) := rfl
theorem f238_56 : zF 238 56 = some (.iload 6, 2, [], 0) := rfl
theorem f238_58 : zF 238 58 = some (.iload 4, 2, [], 0) := rfl
theorem f238_60 : zF 238 60 = some (.if_icmp .ge 32, 3, [], 0) := rfl
theorem f238_63 : zF 238 63 = some (.aload_n 0, 1, [], 0) := rfl
theorem f238_64 : zF 238 64 = some (.getfield 35, 3, [10, 10, 2], 0) := rfl
theorem f238_67 : zF 238 67 = some (.bipush 24, 2, [], 0) := rfl
theorem f238_69 : zF 238 69 = some (.iload_n 1, 1, [], 0) := rfl
theorem f238_70 : zF 238 70 = some (.imul, 1, [], 0) := rfl
theorem f238_71 : zF 238 71 = some (.iload_n 3, 1, [], 0) := rfl
theorem f238_72 : zF 238 72 = some (.iadd, 1, [], 0) := rfl
theorem f238_73 : zF 238 73 = some (.iload 6, 2, [], 0) := rfl
theorem f238_75 : zF 238 75 = some (.iadd, 1, [], 0) := rfl
theorem f238_76 : zF 238 76 = some (.laload, 1, [], 0) := rfl
theorem f238_77 : zF 238 77 = some (.invokestatic 192, 3, [1, 154, 0, 1, 2, 0, 0], 0) := rfl
theorem f238_80 : zF 238 80 = some (.ifCond .ne 6, 3, [], 0) := rfl
theorem f238_83 : zF 238 83 = some (.bipush (-2), 2, [], 0) := rfl
theorem f238_85 : zF 238 85 = some (.ireturn, 1, [0], 0) := rfl
theorem f238_86 : zF 238 86 = some (.iinc 6 1, 3, [], 0) := rfl
theorem f238_89 : zF 238 89 = some (.goto (-33), 3, [], 0) := rfl
theorem f238_92 : zF 238 92 = some (.aload_n 0, 1, [], 0) := rfl
theorem f238_93 : zF 238 93 = some (.invokevirtual 258, 3, [0, 174, 10, 1, 2, 0, 0], 0) := rfl
theorem f238_96 : zF 238 96 = some (.iconst 0, 1, [], 0) := rfl
theorem f238_97 : zF 238 97 = some (.istore 6, 2, [], 0) := rfl
theorem f238_99 : zF 238 99 = some (.iconst 1, 1, [], 0) := rfl
theorem f238_100 : zF 238 100 = some (.istore 7, 2, [], 0) := rfl
theorem f238_102 : zF 238 102 = some (.iconst 0, 1, [], 0) := rfl
theorem f238_103 : zF 238 103 = some (.istore 8, 2, [], 0) := rfl
theorem f238_105 : zF 238 105 = some (.iload 8, 2, [], 0) := rfl
theorem f238_107 : zF 238 107 = some (.iload 4, 2, [], 0) := rfl
theorem f238_109 : zF 238 109 = some (.if_icmp .ge 95, 3, [], 0) := rfl
theorem f238_112 : zF 238 112 = some (.iload 7, 2, [], 0) := rfl
theorem f238_114 : zF 238 114 = some (.ifCond .eq 90, 3, [], 0) := rfl
theorem f238_117 : zF 238 117 = some (.aload_n 0, 1, [], 0) := rfl
theorem f238_118 : zF 238 118 = some (.getfield 35, 3, [10, 10, 2], 0) := rfl
theorem f238_121 : zF 238 121 = some (.bipush 24, 2, [], 0) := rfl
theorem f238_123 : zF 238 123 = some (.iload_n 1, 1, [], 0) := rfl
theorem f238_124 : zF 238 124 = some (.imul, 1, [], 0) := rfl
theorem f238_125 : zF 238 125 = some (.iload_n 3, 1, [], 0) := rfl
theorem f238_126 : zF 238 126 = some (.iadd, 1, [], 0) := rfl
theorem f238_127 : zF 238 127 = some (.iload 8, 2, [], 0) := rfl
theorem f238_129 : zF 238 129 = some (.iadd, 1, [], 0) := by decide +kernel
theorem f238_130 : zF 238 130 = some (.laload, 1, [], 0) := by decide +kernel
theorem f238_131 : zF 238 131 = some (.l2i, 1, [], 0) := by decide +kernel
theorem f238_132 : zF 238 132 = some (.istore 9, 2, [], 0) := by decide +kernel
theorem f238_134 : zF 238 134 = some (.aload_n 0, 1, [], 0) := by decide +kernel
theorem f238_135 : zF 238 135 = some (.iload 9, 2, [], 0) := by decide +kernel
theorem f238_137 : zF 238 137 = some (.invokevirtual 308, 3, [0, 201, 10, 2, 2, 0, 0], 0) := by decide +kernel
theorem f238_140 : zF 238 140 = some (.ifCond .ne 7, 3, [], 0) := by decide +kernel
theorem f238_143 : zF 238 143 = some (.iconst 1, 1, [], 0) := by decide +kernel
theorem f238_144 : zF 238 144 = some (.goto 4, 3, [], 0) := by decide +kernel
theorem f238_147 : zF 238 147 = some (.iconst 0, 1, [], 0) := by decide +kernel
theorem f238_148 : zF 238 148 = some (.istore 7, 2, [], 0) := by decide +kernel
theorem f238_150 : zF 238 150 = some (.iload 7, 2, [], 0) := by decide +kernel
theorem f238_152 : zF 238 152 = some (.ifCond .eq 31, 3, [], 0) := by decide +kernel
theorem f238_155 : zF 238 155 = some (.aload_n 0, 1, [], 0) := by decide +kernel
theorem f238_156 : zF 238 156 = some (.aload_n 0, 1, [], 0) := by decide +kernel
theorem f238_157 : zF 238 157 = some (.iload 9, 2, [], 0) := by decide +kernel
theorem f238_159 : zF 238 159 = some (.invokevirtual 311, 3, [0, 202, 10, 2, 4, 0, 0], 0) := by decide +kernel
theorem f238_162 : zF 238 162 = some (.putfield 332, 3, [10, 37, 0], 0) := by decide +kernel
theorem f238_165 : zF 238 165 = some (.aload_n 0, 1, [], 0) := by decide +kernel
theorem f238_166 : zF 238 166 = some (.iload 9, 2, [], 0) := by decide +kernel
theorem f238_168 : zF 238 168 = some (.iconst 0, 1, [], 0) := by decide +kernel
theorem f238_169 : zF 238 169 = some (.invokevirtual 205, 3, [0, 156, 10, 3, 3, 0, 0], 0) := by decide +kernel
theorem f238_172 : zF 238 172 = some (.iconst 2, 1, [], 0) := by decide +kernel
theorem f238_173 : zF 238 173 = some (.if_icmp .eq 7, 3, [], 0) := by decide +kernel
theorem f238_176 : zF 238 176 = some (.iconst 1, 1, [], 0) := by decide +kernel
theorem f238_177 : zF 238 177 = some (.goto 4, 3, [], 0) := by decide +kernel
theorem f238_180 : zF 238 180 = some (.iconst 0, 1, [], 0) := by decide +kernel
theorem f238_181 : zF 238 181 = some (.istore 7, 2, [], 0) := by decide +kernel
theorem f238_183 : zF 238 183 = some (.iload 6, 2, [], 0) := by decide +kernel
theorem f238_185 : zF 238 185 = some (.iload 7, 2, [], 0) := by decide +kernel
theorem f238_187 : zF 238 187 = some (.ifCond .eq 7, 3, [], 0) := by decide +kernel
theorem f238_190 : zF 238 190 = some (.iconst 1, 1, [], 0) := by decide +kernel
theorem f238_191 : zF 238 191 = some (.goto 4, 3, [], 0) := by decide +kernel
theorem f238_194 : zF 238 194 = some (.iconst 0, 1, [], 0) := by decide +kernel
theorem f238_195 : zF 238 195 = some (.iadd, 1, [], 0) := by decide +kernel
theorem f238_196 : zF 238 196 = some (.istore 6, 2, [], 0) := by decide +kernel
theorem f238_198 : zF 238 198 = some (.iinc 8 1, 3, [], 0) := by decide +kernel
theorem f238_201 : zF 238 201 = some (.goto (-96), 3, [], 0) := by decide +kernel
theorem f238_204 : zF 238 204 = some (.aload_n 0, 1, [], 0) := by decide +kernel
theorem f238_205 : zF 238 205 = some (.invokevirtual 249, 3, [0, 176, 10, 1, 2, 0, 0], 0) := by decide +kernel
theorem f238_208 : zF 238 208 = some (.iload 6, 2, [], 0) := by decide +kernel
theorem f238_210 : zF 238 210 = some (.ireturn, 1, [0], 0) := by decide +kernel
theorem f239_0 : zF 239 0 = some (.iload_n 1, 1, [], 0) := rfl
theorem f239_1 : zF 239 1 = some (.invokestatic 391, 3, [1, 235, 0, 1, 1, 0, 0], 0) := rfl
theorem f239_4 : zF 239 4 = some (.ifCond .eq 15, 3, [], 0) := rfl
theorem f239_7 : zF 239 7 = some (.iload_n 2, 1, [], 0) := rfl
theorem f239_8 : zF 239 8 = some (.i2l, 1, [], 0) := rfl
theorem f239_9 : zF 239 9 = some (.lconst 0, 1, [], 0) := rfl
theorem f239_10 : zF 239 10 = some (.ldc2_w 119, 3, [], 3) := rfl
theorem f239_13 : zF 239 13 = some (.invokestatic 121, 3, [1, 151, 0, 3, 6, 0, 0], 0) := rfl
theorem f239_16 : zF 239 16 = some (.ifCond .ne 5, 3, [], 0) := rfl
theorem f239_19 : zF 239 19 = some (.iconst (-1), 1, [], 0) := rfl
theorem f239_20 : zF 239 20 = some (.ireturn, 1, [0], 0) := rfl
theorem f239_21 : zF 239 21 = some (.aload_n 0, 1, [], 0) := rfl
theorem f239_22 : zF 239 22 = some (.iload_n 1, 1, [], 0) := rfl
theorem f239_23 : zF 239 23 = some (.iload_n 2, 1, [], 0) := rfl
theorem f239_24 : zF 239 24 = some (.iload_n 3, 1, [], 0) := rfl
theorem f239_25 : zF 239 25 = some (.iconst 4, 1, [], 0) := rfl
theorem f239_26 : zF 239 26 = some (.invokevirtual 396, 3, [0, 237, 10, 5, 5, 0, 0], 0) := rfl
theorem f239_29 : zF 239 29 = some (.istore 4, 2, [], 0) := rfl
theorem f239_31 : zF 239 31 = some (.iload 4, 2, [], 0) := rfl
theorem f239_33 : zF 239 33 = some (.ifCond .ge 6, 3, [], 0) := rfl
theorem f239_36 : zF 239 36 = some (.iload 4, 2, [], 0) := rfl
theorem f239_38 : zF 239 38 = some (.ireturn, 1, [0], 0) := rfl
theorem f239_39 : zF 239 39 = some (.iconst 0, 1, [], 0) := rfl
theorem f239_40 : zF 239 40 = some (.istore 5, 2, [], 0) := rfl
theorem f239_42 : zF 239 42 = some (.iload 5, 2, [], 0) := rfl
theorem f239_44 : zF 239 44 = some (.iconst 4, 1, [], 0) := rfl
theorem f239_45 : zF 239 45 = some (.if_icmp .ge 35, 3, [], 0) := rfl
theorem f239_48 : zF 239 48 = some (.aload_n 0, 1, [], 0) := rfl
theorem f239_49 : zF 239 49 = some (.getfield 35, 3, [10, 10, 2], 0) := rfl
theorem f239_52 : zF 239 52 = some (.bipush 24, 2, [], 0) := rfl
theorem f239_54 : zF 239 54 = some (.iload_n 1, 1, [], 0) := rfl
theorem f239_55 : zF 239 55 = some (.imul, 1, [], 0) := rfl
theorem f239_56 : zF 239 56 = some (.iload_n 3, 1, [], 0) := rfl
theorem f239_57 : zF 239 57 = some (.iadd, 1, [], 0) := rfl
theorem f239_58 : zF 239 58 = some (.iload 5, 2, [], 0) := rfl
theorem f239_60 : zF 239 60 = some (.iadd, 1, [], 0) := rfl
theorem f239_61 : zF 239 61 = some (.iload_n 2, 1, [], 0) := rfl
theorem f239_62 : zF 239 62 = some (.aload_n 0, 1, [], 0) := rfl
theorem f239_63 : zF 239 63 = some (.iload 5, 2, [], 0) := rfl
theorem f239_65 : zF 239 65 = some (.iconst 1, 1, [], 0) := rfl
theorem f239_66 : zF 239 66 = some (.invokevirtual 205, 3, [0, 156, 10, 3, 3, 0, 0], 0) := rfl
theorem f239_69 : zF 239 69 = some (.i2l, 1, [], 0) := rfl
theorem f239_70 : zF 239 70 = some (.invokestatic 400, 3, [1, 236, 0, 2, 3, 0, 0], 0) := rfl
theorem f239_73 : zF 239 73 = some (.lastore, 1, [], 0) := rfl
theorem f239_74 : zF 239 74 = some (.iinc 5 1, 3, [], 0) := rfl
theorem f239_77 : zF 239 77 = some (.goto (-35), 3, [], 0) := rfl
theorem f239_80 : zF 239 80 = some (.iconst 4, 1, [], 0) := rfl
theorem f239_81 : zF 239 81 = some (.ireturn, 1, [0], 0) := rfl
theorem f240_0 : zF 240 0 = some (.iload_n 1, 1, [], 0) := rfl
theorem f240_1 : zF 240 1 = some (.invokestatic 391, 3, [1, 235, 0, 1, 1, 0, 0], 0) := rfl
theorem f240_4 : zF 240 4 = some (.ifCond .eq 21, 3, [], 0) := rfl
theorem f240_7 : zF 240 7 = some (.iload_n 2, 1, [], 0) := rfl
theorem f240_8 : zF 240 8 = some (.i2l, 1, [], 0) := rfl
theorem f240_9 : zF 240 9 = some (.lconst 0, 1, [], 0) := rfl
theorem f240_10 : zF 240 10 = some (.ldc2_w 119, 3, [], 3) := rfl
theorem f240_13 : zF 240 13 = some (.invokestatic 121, 3, [1, 151, 0, 3, 6, 0, 0], 0) := rfl
theorem f240_16 : zF 240 16 = some (.ifCond .eq 9, 3, [], 0) := rfl
theorem f240_19 : zF 240 19 = some (.iload_n 3, 1, [], 0) := rfl
theorem f240_20 : zF 240 20 = some (.bipush 24, 2, [], 0) := rfl
theorem f240_22 : zF 240 22 = some (.if_icmp .le 5, 3, [], 0) := rfl
theorem f240_25 : zF 240 25 = some (.iconst (-1), 1, [], 0) := rfl
theorem f240_26 : zF 240 26 = some (.ireturn, 1, [0], 0) := rfl
theorem f240_27 : zF 240 27 = some (.iload_n 3, 1, [], 0) := rfl
theorem f240_28 : zF 240 28 = some (.ifCond .ge 6, 3, [], 0) := rfl
theorem f240_31 : zF 240 31 = some (.bipush (-14), 2, [], 0) := rfl
theorem f240_33 : zF 240 33 = some (.ireturn, 1, [0], 0) := rfl
theorem f240_34 : zF 240 34 = some (.aload_n 0, 1, [], 0) := rfl
theorem f240_35 : zF 240 35 = some (.getfield 29, 3, [10, 8, 2], 0) := rfl
theorem f240_38 : zF 240 38 = some (.iload_n 1, 1, [], 0) := rfl
theorem f240_39 : zF 240 39 = some (.iload_n 2, 1, [], 0) := rfl
theorem f240_40 : zF 240 40 = some (.iastore, 1, [], 0) := rfl
theorem f240_41 : zF 240 41 = some (.aload_n 0, 1, [], 0) := rfl
theorem f240_42 : zF 240 42 = some (.getfield 32, 3, [10, 9, 2], 0) := rfl
theorem f240_45 : zF 240 45 = some (.iload_n 1, 1, [], 0) := rfl
theorem f240_46 : zF 240 46 = some (.iload_n 3, 1, [], 0) := rfl
theorem f240_47 : zF 240 47 = some (.iastore, 1, [], 0) := rfl
theorem f240_48 : zF 240 48 = some (.iconst 0, 1, [], 0) := rfl
theorem f240_49 : zF 240 49 = some (.istore 4, 2, [], 0) := rfl
theorem f240_51 : zF 240 51 = some (.iload 4, 2, [], 0) := rfl
theorem f240_53 : zF 240 53 = some (.bipush 24, 2, [], 0) := rfl
theorem f240_55 : zF 240 55 = some (.if_icmp .ge 22, 3, [], 0) := rfl
theorem f240_58 : zF 240 58 = some (.aload_n 0, 1, [], 0) := rfl
theorem f240_59 : zF 240 59 = some (.getfield 35, 3, [10, 10, 2], 0) := rfl
theorem f240_62 : zF 240 62 = some (.bipush 24, 2, [], 0) := rfl
theorem f240_64 : zF 240 64 = some (.iload_n 1, 1, [], 0) := rfl
theorem f240_65 : zF 240 65 = some (.imul, 1, [], 0) := rfl
theorem f240_66 : zF 240 66 = some (.iload 4, 2, [], 0) := rfl
theorem f240_68 : zF 240 68 = some (.iadd, 1, [], 0) := rfl
theorem f240_69 : zF 240 69 = some (.lconst 0, 1, [], 0) := rfl
theorem f240_70 : zF 240 70 = some (.lastore, 1, [], 0) := rfl
theorem f240_71 : zF 240 71 = some (.iinc 4 1, 3, [], 0) := rfl
theorem f240_74 : zF 240 74 = some (.goto (-23), 3, [], 0) := rfl
theorem f240_77 : zF 240 77 = some (.iload_n 3, 1, [], 0) := rfl
theorem f240_78 : zF 240 78 = some (.ireturn, 1, [0], 0) := rfl
theorem f241_0 : zF 241 0 = some (.iload_n 1, 1, [], 0) := rfl
theorem f241_1 : zF 241 1 = some (.invokestatic 391, 3, [1, 235, 0, 1, 1, 0, 0], 0) := rfl
theorem f241_4 : zF 241 4 = some (.ifCond .ne 5, 3, [], 0) := rfl
theorem f241_7 : zF 241 7 = some (.iconst (-1), 1, [], 0) := rfl
theorem f241_8 : zF 241 8 = some (.ireturn, 1, [0], 0) := rfl
theorem f241_9 : zF 241 9 = some (.aload_n 0, 1, [], 0) := rfl
theorem f241_10 : zF 241 10 = some (.getfield 29, 3, [10, 8, 2], 0) := rfl
theorem f241_13 : zF 241 13 = some (.iload_n 1, 1, [], 0) := rfl
theorem f241_14 : zF 241 14 = some (.iaload, 1, [], 0) := rfl
theorem f241_15 : zF 241 15 = some (.ifCond .ge 6, 3, [], 0) := rfl
theorem f241_18 : zF 241 18 = some (.bipush (-11), 2, [], 0) := rfl
theorem f241_20 : zF 241 20 = some (.ireturn, 1, [0], 0) := rfl
theorem f241_21 : zF 241 21 = some (.aload_n 0, 1, [], 0) := rfl
theorem f241_22 : zF 241 22 = some (.getfield 29, 3, [10, 8, 2], 0) := rfl
theorem f241_25 : zF 241 25 = some (.iload_n 1, 1, [], 0) := rfl
theorem f241_26 : zF 241 26 = some (.iconst (-1), 1, [], 0) := rfl
theorem f241_27 : zF 241 27 = some (.iastore, 1, [], 0) := rfl
theorem f241_28 : zF 241 28 = some (.aload_n 0, 1, [], 0) := rfl
theorem f241_29 : zF 241 29 = some (.getfield 32, 3, [10, 9, 2], 0) := rfl
theorem f241_32 : zF 241 32 = some (.iload_n 1, 1, [], 0) := rfl
theorem f241_33 : zF 241 33 = some (.iaload, 1, [], 0) := rfl
theorem f241_34 : zF 241 34 = some (.ireturn, 1, [0], 0) := rfl
theorem f242_0 : zF 242 0 = some (.iload_n 1, 1, [], 0) := rfl
theorem f242_1 : zF 242 1 = some (.invokestatic 391, 3, [1, 235, 0, 1, 1, 0, 0], 0) := rfl
theorem f242_4 : zF 242 4 = some (.ifCond .eq 15, 3, [], 0) := rfl
theorem f242_7 : zF 242 7 = some (.iload_n 2, 1, [], 0) := rfl
theorem f242_8 : zF 242 8 = some (.i2l, 1, [], 0) := rfl
theorem f242_9 : zF 242 9 = some (.lconst 0, 1, [], 0) := rfl
theorem f242_10 : zF 242 10 = some (.ldc2_w 119, 3, [], 3) := rfl
theorem f242_13 : zF 242 13 = some (.invokestatic 121, 3, [1, 151, 0, 3, 6, 0, 0], 0) := rfl
theorem f242_16 : zF 242 16 = some (.ifCond .ne 5, 3, [], 0) := rfl
theorem f242_19 : zF 242 19 = some (.iconst (-1), 1, [], 0) := rfl
theorem f242_20 : zF 242 20 = some (.ireturn, 1, [0], 0) := rfl
theorem f242_21 : zF 242 21 = some (.aload_n 0, 1, [], 0) := rfl
theorem f242_22 : zF 242 22 = some (.iload_n 1, 1, [], 0) := rfl
theorem f242_23 : zF 242 23 = some (.iload_n 2, 1, [], 0) := rfl
theorem f242_24 : zF 242 24 = some (.iload_n 3, 1, [], 0) := rfl
theorem f242_25 : zF 242 25 = some (.iconst 1, 1, [], 0) := rfl
theorem f242_26 : zF 242 26 = some (.invokevirtual 396, 3, [0, 237, 10, 5, 5, 0, 0], 0) := rfl
theorem f242_29 : zF 242 29 = some (.istore 6, 2, [], 0) := rfl
theorem f242_31 : zF 242 31 = some (.iload 6, 2, [], 0) := rfl
theorem f242_33 : zF 242 33 = some (.ifCond .ge 6, 3, [], 0) := rfl
theorem f242_36 : zF 242 36 = some (.iload 6, 2, [], 0) := rfl
theorem f242_38 : zF 242 38 = some (.ireturn, 1, [0], 0) := rfl
theorem f242_39 : zF 242 39 = some (.aload_n 0, 1, [], 0) := rfl
theorem f242_40 : zF 242 40 = some (.getfield 35, 3, [10, 10, 2], 0) := rfl
theorem f242_43 : zF 242 43 = some (.bipush 24, 2, [], 0) := rfl
theorem f242_45 : zF 242 45 = some (.iload_n 1, 1, [], 0) := rfl
theorem f242_46 : zF 242 46 = some (.imul, 1, [], 0) := rfl
theorem f242_47 : zF 242 47 = some (.iload_n 3, 1, [], 0) := rfl
theorem f242_48 : zF 242 48 = some (.iadd, 1, [], 0) := rfl
theorem f242_49 : zF 242 49 = some (.iload_n 2, 1, [], 0) := rfl
theorem f242_50 : zF 242 50 = some (.lload 4, 2, [], 0) := rfl
theorem f242_52 : zF 242 52 = some (.invokestatic 400, 3, [1, 236, 0, 2, 3, 0, 0], 0) := rfl
theorem f242_55 : zF 242 55 = some (.lastore, 1, [], 0) := rfl
theorem f242_56 : zF 242 56 = some (.iconst 1, 1, [], 0) := rfl
theorem f242_57 : zF 242 57 = some (.ireturn, 1, [0], 0) := rfl
theorem f243_0 : zF 243 0 = some (.iload_n 1, 1, [], 0) := rfl
theorem f243_1 : zF 243 1 = some (.invokestatic 391, 3, [1, 235, 0, 1, 1, 0, 0], 0) := rfl
theorem f243_4 : zF 243 4 = some (.ifCond .eq 10, 3, [], 0) := rfl
theorem f243_7 : zF 243 7 = some (.iload_n 3, 1, [], 0) := rfl
theorem f243_8 : zF 243 8 = some (.invokestatic 391, 3, [1, 235, 0, 1, 1, 0, 0], 0) := rfl
theorem f243_11 : zF 243 11 = some (.ifCond .ne 5, 3, [], 0) := rfl
theorem f243_14 : zF 243 14 = some (.iconst (-1), 1, [], 0) := rfl
theorem f243_15 : zF 243 15 = some (.ireturn, 1, [0], 0) := rfl
theorem f243_16 : zF 243 16 = some (.aload_n 0, 1, [], 0) := rfl
theorem f243_17 : zF 243 17 = some (.getfield 29, 3, [10, 8, 2], 0) := rfl
theorem f243_20 : zF 243 20 = some (.iload_n 1, 1, [], 0) := rfl
theorem f243_21 : zF 243 21 = some (.iaload, 1, [], 0) := rfl
theorem f243_22 : zF 243 22 = some (.ifCond .lt 12, 3, [], 0) := rfl
theorem f243_25 : zF 243 25 = some (.aload_n 0, 1, [], 0) := rfl
theorem f243_26 : zF 243 26 = some (.getfield 29, 3, [10, 8, 2], 0) := rfl
theorem f243_29 : zF 243 29 = some (.iload_n 3, 1, [], 0) := rfl
theorem f243_30 : zF 243 30 = some (.iaload, 1, [], 0) := rfl
theorem f243_31 : zF 243 31 = some (.ifCond .ge 6, 3, [], 0) := rfl
theorem f243_34 : zF 243 34 = some (.bipush (-11), 2, [], 0) := rfl
theorem f243_36 : zF 243 36 = some (.ireturn, 1, [0], 0) := rfl
theorem f243_37 : zF 243 37 = some (.aload_n 0, 1, [], 0) := rfl
theorem f243_38 : zF 243 38 = some (.getfield 29, 3, [10, 8, 2], 0) := rfl
theorem f243_41 : zF 243 41 = some (.iload_n 1, 1, [], 0) := rfl
theorem f243_42 : zF 243 42 = some (.iaload, 1, [], 0) := rfl
theorem f243_43 : zF 243 43 = some (.aload_n 0, 1, [], 0) := rfl
theorem f243_44 : zF 243 44 = some (.getfield 29, 3, [10, 8, 2], 0) := rfl
theorem f243_47 : zF 243 47 = some (.iload_n 3, 1, [], 0) := rfl
theorem f243_48 : zF 243 48 = some (.iaload, 1, [], 0) := rfl
theorem f243_49 : zF 243 49 = some (.if_icmp .eq 6, 3, [], 0) := rfl
theorem f243_52 : zF 243 52 = some (.bipush (-12), 2, [], 0) := rfl
theorem f243_54 : zF 243 54 = some (.ireturn, 1, [0], 0) := rfl
theorem f243_55 : zF 243 55 = some (.iload 5, 2, [], 0) := rfl
theorem f243_57 : zF 243 57 = some (.ifCond .lt 39, 3, [], 0) := rfl
theorem f243_60 : zF 243 60 = some (.iload_n 2, 1, [], 0) := rfl
theorem f243_61 : zF 243 61 = some (.ifCond .lt 35, 3, [], 0) := rfl
theorem f243_64 : zF 243 64 = some (.iload 4, 2, [], 0) := rfl
theorem f243_66 : zF 243 66 = some (.ifCond .lt 30, 3, [], 0) := rfl
theorem f243_69 : zF 243 69 = some (.iload 5, 2, [], 0) := rfl
theorem f243_71 : zF 243 71 = some (.aload_n 0, 1, [], 0) := rfl
theorem f243_72 : zF 243 72 = some (.getfield 32, 3, [10, 9, 2], 0) := rfl
theorem f243_75 : zF 243 75 = some (.iload_n 1, 1, [], 0) := rfl
theorem f243_76 : zF 243 76 = some (.iaload, 1, [], 0) := rfl
theorem f243_77 : zF 243 77 = some (.iload_n 2, 1, [], 0) := rfl
theorem f243_78 : zF 243 78 = some (.isub, 1, [], 0) := rfl
theorem f243_79 : zF 243 79 = some (.if_icmp .gt 17, 3, [], 0) := rfl
theorem f243_82 : zF 243 82 = some (.iload 5, 2, [], 0) := rfl
theorem f243_84 : zF 243 84 = some (.aload_n 0, 1, [], 0) := rfl
theorem f243_85 : zF 243 85 = some (.getfield 32, 3, [10, 9, 2], 0) := rfl
theorem f243_88 : zF 243 88 = some (.iload_n 3, 1, [], 0) := rfl
theorem f243_89 : zF 243 89 = some (.iaload, 1, [], 0) := rfl
theorem f243_90 : zF 243 90 = some (.iload 4, 2, [], 0) := rfl
theorem f243_92 : zF 243 92 = some (.isub, 1, [], 0) := rfl
theorem f243_93 : zF 243 93 = some (.if_icmp .le 6, 3, [], 0) := rfl
theorem f243_96 : zF 243 96 = some (.bipush (-13), 2, [], 0) := rfl
theorem f243_98 : zF 243 98 = some (.ireturn, 1, [0], 0) := rfl
theorem f243_99 : zF 243 99 = some (.iconst 0, 1, [], 0) := rfl
theorem f243_100 : zF 243 100 = some (.istore 6, 2, [], 0) := rfl
theorem f243_102 : zF 243 102 = some (.iload 6, 2, [], 0) := rfl
theorem f243_104 : zF 243 104 = some (.iload 5, 2, [], 0) := rfl
theorem f243_106 : zF 243 106 = some (.if_icmp .ge 30, 3, [], 0) := rfl
theorem f243_109 : zF 243 109 = some (.aload_n 0, 1, [], 0) := rfl
theorem f243_110 : zF 243 110 = some (.getfield 39, 3, [10, 11, 2], 0) := rfl
theorem f243_113 : zF 243 113 = some (.iload 6, 2, [], 0) := rfl
theorem f243_115 : zF 243 115 = some (.aload_n 0, 1, [], 0) := rfl
theorem f243_116 : zF 243 116 = some (.getfield 35, 3, [10, 10, 2], 0) := rfl
theorem f243_119 : zF 243 119 = some (.bipush 24, 2, [], 0) := rfl
theorem f243_121 : zF 243 121 = some (.iload_n 1, 1, [], 0) := rfl
theorem f243_122 : zF 243 122 = some (.imul, 1, [], 0) := rfl
theorem f243_123 : zF 243 123 = some (.iload_n 2, 1, [], 0) := rfl
theorem f243_124 : zF 243 124 = some (.iadd, 1, [], 0) := rfl
theorem f243_125 : zF 243 125 = some (.iload 6, 2, [], 0) := by decide +kernel
theorem f243_127 : zF 243 127 = some (.iadd, 1, [], 0) := by decide +kernel
theorem f243_128 : zF 243 128 = some (.laload, 1, [], 0) := by decide +kernel
theorem f243_129 : zF 243 129 = some (.lastore, 1, [], 0) := by decide +kernel
theorem f243_130 : zF 243 130 = some (.iinc 6 1, 3, [], 0) := by decide +kernel
theorem f243_133 : zF 243 133 = some (.goto (-31), 3, [], 0) := by decide +kernel
theorem f243_136 : zF 243 136 = some (.iconst 0, 1, [], 0) := by decide +kernel
theorem f243_137 : zF 243 137 = some (.istore 6, 2, [], 0) := by decide +kernel
theorem f243_139 : zF 243 139 = some (.iload 6, 2, [], 0) := by decide +kernel
theorem f243_141 : zF 243 141 = some (.iload 5, 2, [], 0) := by decide +kernel
theorem f243_143 : zF 243 143 = some (.if_icmp .ge 31, 3, [], 0) := by decide +kernel
theorem f243_146 : zF 243 146 = some (.aload_n 0, 1, [], 0) := by decide +kernel
theorem f243_147 : zF 243 147 = some (.getfield 35, 3, [10, 10, 2], 0) := by decide +kernel
theorem f243_150 : zF 243 150 = some (.bipush 24, 2, [], 0) := by decide +kernel
theorem f243_152 : zF 243 152 = some (.iload_n 3, 1, [], 0) := by decide +kernel
theorem f243_153 : zF 243 153 = some (.imul, 1, [], 0) := by decide +kernel
theorem f243_154 : zF 243 154 = some (.iload 4, 2, [], 0) := by decide +kernel
theorem f243_156 : zF 243 156 = some (.iadd, 1, [], 0) := by decide +kernel
theorem f243_157 : zF 243 157 = some (.iload 6, 2, [], 0) := by decide +kernel
theorem f243_159 : zF 243 159 = some (.iadd, 1, [], 0) := by decide +kernel
theorem f243_160 : zF 243 160 = some (.aload_n 0, 1, [], 0) := by decide +kernel
theorem f243_161 : zF 243 161 = some (.getfield 39, 3, [10, 11, 2], 0) := by decide +kernel
theorem f243_164 : zF 243 164 = some (.iload 6, 2, [], 0) := by decide +kernel
theorem f243_166 : zF 243 166 = some (.laload, 1, [], 0) := by decide +kernel
theorem f243_167 : zF 243 167 = some (.lastore, 1, [], 0) := by decide +kernel
theorem f243_168 : zF 243 168 = some (.iinc 6 1, 3, [], 0) := by decide +kernel
theorem f243_171 : zF 243 171 = some (.goto (-32), 3, [], 0) := by decide +kernel
theorem f243_174 : zF 243 174 = some (.iload 5, 2, [], 0) := by decide +kernel
theorem f243_176 : zF 243 176 = some (.ireturn, 1, [0], 0) := by decide +kernel
theorem f244_0 : zF 244 0 = some (.iload_n 0, 1, [], 0) := rfl
theorem f244_1 : zF 244 1 = some (.iload_n 0, 1, [], 0) := rfl
theorem f244_2 : zF 244 2 = some (.iconst 1, 1, [], 0) := rfl
theorem f244_3 : zF 244 3 = some (.iushr, 1, [], 0) := rfl
theorem f244_4 : zF 244 4 = some (.ldc_w 265, 3, [], 1431655765) := rfl
theorem f244_7 : zF 244 7 = some (.iand, 1, [], 0) := rfl
theorem f244_8 : zF 244 8 = some (.isub, 1, [], 0) := rfl
theorem f244_9 : zF 244 9 = some (.istore_n 0, 1, [], 0) := rfl
theorem f244_10 : zF 244 10 = some (.iload_n 0, 1, [], 0) := rfl
theorem f244_11 : zF 244 11 = some (.ldc_w 266, 3, [], 858993459) := rfl
theorem f244_14 : zF 244 14 = some (.iand, 1, [], 0) := rfl
theorem f244_15 : zF 244 15 = some (.iload_n 0, 1, [], 0) := rfl
theorem f244_16 : zF 244 16 = some (.iconst 2, 1, [], 0) := rfl
theorem f244_17 : zF 244 17 = some (.iushr, 1, [], 0) := rfl
theorem f244_18 : zF 244 18 = some (.ldc_w 266, 3, [], 858993459) := rfl
theorem f244_21 : zF 244 21 = some (.iand, 1, [], 0) := rfl
theorem f244_22 : zF 244 22 = some (.iadd, 1, [], 0) := rfl
theorem f244_23 : zF 244 23 = some (.istore_n 0, 1, [], 0) := rfl
theorem f244_24 : zF 244 24 = some (.iload_n 0, 1, [], 0) := rfl
theorem f244_25 : zF 244 25 = some (.iload_n 0, 1, [], 0) := rfl
theorem f244_26 : zF 244 26 = some (.iconst 4, 1, [], 0) := rfl
theorem f244_27 : zF 244 27 = some (.iushr, 1, [], 0) := rfl
theorem f244_28 : zF 244 28 = some (.iadd, 1, [], 0) := rfl
theorem f244_29 : zF 244 29 = some (.ldc_w 267, 3, [], 252645135) := rfl
theorem f244_32 : zF 244 32 = some (.iand, 1, [], 0) := rfl
theorem f244_33 : zF 244 33 = some (.istore_n 0, 1, [], 0) := rfl
theorem f244_34 : zF 244 34 = some (.iload_n 0, 1, [], 0) := rfl
theorem f244_35 : zF 244 35 = some (.iload_n 0, 1, [], 0) := rfl
theorem f244_36 : zF 244 36 = some (.bipush 8, 2, [], 0) := rfl
theorem f244_38 : zF 244 38 = some (.iushr, 1, [], 0) := rfl
theorem f244_39 : zF 244 39 = some (.iadd, 1, [], 0) := rfl
theorem f244_40 : zF 244 40 = some (.istore_n 0, 1, [], 0) := rfl
theorem f244_41 : zF 244 41 = some (.iload_n 0, 1, [], 0) := rfl
theorem f244_42 : zF 244 42 = some (.iload_n 0, 1, [], 0) := rfl
theorem f244_43 : zF 244 43 = some (.bipush 16, 2, [], 0) := rfl
theorem f244_45 : zF 244 45 = some (.iushr, 1, [], 0) := rfl
theorem f244_46 : zF 244 46 = some (.iadd, 1, [], 0) := rfl
theorem f244_47 : zF 244 47 = some (.istore_n 0, 1, [], 0) := rfl
theorem f244_48 : zF 244 48 = some (.iload_n 0, 1, [], 0) := rfl
theorem f244_49 : zF 244 49 = some (.bipush 63, 2, [], 0) := rfl
theorem f244_51 : zF 244 51 = some (.iand, 1, [], 0) := rfl
theorem f244_52 : zF 244 52 = some (.ireturn, 1, [0], 0) := rfl
theorem f245_0 : zF 245 0 = some (.iconst 0, 1, [], 0) := rfl
theorem f245_1 : zF 245 1 = some (.istore_n 3, 1, [], 0) := rfl
theorem f245_2 : zF 245 2 = some (.aload_n 0, 1, [], 0) := rfl
theorem f245_3 : zF 245 3 = some (.arraylength, 1, [], 0) := rfl
theorem f245_4 : zF 245 4 = some (.istore 4, 2, [], 0) := rfl
theorem f245_6 : zF 245 6 = some (.iload_n 3, 1, [], 0) := rfl
theorem f245_7 : zF 245 7 = some (.iload 4, 2, [], 0) := rfl
theorem f245_9 : zF 245 9 = some (.if_icmp .ge 13, 3, [], 0) := rfl
theorem f245_12 : zF 245 12 = some (.aload_n 0, 1, [], 0) := rfl
theorem f245_13 : zF 245 13 = some (.iload_n 3, 1, [], 0) := rfl
theorem f245_14 : zF 245 14 = some (.lload_n 1, 1, [], 0) := rfl
theorem f245_15 : zF 245 15 = some (.lastore, 1, [], 0) := rfl
theorem f245_16 : zF 245 16 = some (.iinc 3 1, 3, [], 0) := rfl
theorem f245_19 : zF 245 19 = some (.goto (-13), 3, [], 0) := rfl
theorem f245_22 : zF 245 22 = some (.return_, 1, [], 0) := rfl
theorem f246_0 : zF 246 0 = some (.iconst 0, 1, [], 0) := rfl
theorem f246_1 : zF 246 1 = some (.istore_n 2, 1, [], 0) := rfl
theorem f246_2 : zF 246 2 = some (.aload_n 0, 1, [], 0) := rfl
theorem f246_3 : zF 246 3 = some (.arraylength, 1, [], 0) := rfl
theorem f246_4 : zF 246 4 = some (.istore_n 3, 1, [], 0) := rfl
theorem f246_5 : zF 246 5 = some (.iload_n 2, 1, [], 0) := rfl
theorem f246_6 : zF 246 6 = some (.iload_n 3, 1, [], 0) := rfl
theorem f246_7 : zF 246 7 = some (.if_icmp .ge 13, 3, [], 0) := rfl
theorem f246_10 : zF 246 10 = some (.aload_n 0, 1, [], 0) := rfl
theorem f246_11 : zF 246 11 = some (.iload_n 2, 1, [], 0) := rfl
theorem f246_12 : zF 246 12 = some (.iload_n 1, 1, [], 0) := rfl
theorem f246_13 : zF 246 13 = some (.iastore, 1, [], 0) := rfl
theorem f246_14 : zF 246 14 = some (.iinc 2 1, 3, [], 0) := rfl
theorem f246_17 : zF 246 17 = some (.goto (-12), 3, [], 0) := rfl
theorem f246_20 : zF 246 20 = some (.return_, 1, [], 0) := rfl
theorem f247_0 : zF 247 0 = some (.iload_n 1, 1, [], 0) := rfl
theorem f247_1 : zF 247 1 = some (.aload_n 0, 1, [], 0) := rfl
theorem f247_2 : zF 247 2 = some (.arraylength, 1, [], 0) := rfl
theorem f247_3 : zF 247 3 = some (.if_icmp .ne 11, 3, [], 0) := rfl
theorem f247_6 : zF 247 6 = some (.aload_n 0, 1, [], 0) := rfl
theorem f247_7 : zF 247 7 = some (.invokevirtual 316, 3, [6], 0) := rfl
theorem f247_10 : zF 247 10 = some (.checkcast 317, 3, [20], 0) := rfl
theorem f247_13 : zF 247 13 = some (.areturn, 1, [], 0) := rfl
theorem f247_14 : zF 247 14 = some (.iload_n 1, 1, [], 0) := rfl
theorem f247_15 : zF 247 15 = some (.newarray .int, 2, [], 0) := rfl
theorem f247_17 : zF 247 17 = some (.astore_n 2, 1, [], 0) := rfl
theorem f247_18 : zF 247 18 = some (.aload_n 0, 1, [], 0) := rfl
theorem f247_19 : zF 247 19 = some (.iconst 0, 1, [], 0) := rfl
theorem f247_20 : zF 247 20 = some (.aload_n 2, 1, [], 0) := rfl
theorem f247_21 : zF 247 21 = some (.iconst 0, 1, [], 0) := rfl
theorem f247_22 : zF 247 22 = some (.aload_n 0, 1, [], 0) := rfl
theorem f247_23 : zF 247 23 = some (.arraylength, 1, [], 0) := rfl
theorem f247_24 : zF 247 24 = some (.iload_n 1, 1, [], 0) := rfl
theorem f247_25 : zF 247 25 = some (.invokestatic 304, 3, [10], 0) := rfl
theorem f247_28 : zF 247 28 = some (.invokestatic 150, 3, [5], 0) := rfl
theorem f247_31 : zF 247 31 = some (.aload_n 2, 1, [], 0) := rfl
theorem f247_32 : zF 247 32 = some (.areturn, 1, [], 0) := rfl
theorem f248_0 : zF 248 0 = some (.iconst 0, 1, [], 0) := rfl
theorem f248_1 : zF 248 1 = some (.istore_n 1, 1, [], 0) := rfl
theorem f248_2 : zF 248 2 = some (.iconst 0, 1, [], 0) := rfl
theorem f248_3 : zF 248 3 = some (.istore_n 2, 1, [], 0) := rfl
theorem f248_4 : zF 248 4 = some (.iload_n 2, 1, [], 0) := rfl
theorem f248_5 : zF 248 5 = some (.aload_n 0, 1, [], 0) := rfl
theorem f248_6 : zF 248 6 = some (.getfield 15, 3, [7, 1, 0], 0) := rfl
theorem f248_9 : zF 248 9 = some (.if_icmp .ge 23, 3, [], 0) := rfl
theorem f248_12 : zF 248 12 = some (.aload_n 0, 1, [], 0) := rfl
theorem f248_13 : zF 248 13 = some (.getfield 9, 3, [7, 0, 2], 0) := rfl
theorem f248_16 : zF 248 16 = some (.iload_n 2, 1, [], 0) := rfl
theorem f248_17 : zF 248 17 = some (.caload, 1, [], 0) := rfl
theorem f248_18 : zF 248 18 = some (.bipush 32, 2, [], 0) := rfl
theorem f248_20 : zF 248 20 = some (.if_icmp .ne 6, 3, [], 0) := rfl
theorem f248_23 : zF 248 23 = some (.iinc 1 1, 3, [], 0) := rfl
theorem f248_26 : zF 248 26 = some (.iinc 2 1, 3, [], 0) := rfl
theorem f248_29 : zF 248 29 = some (.goto (-25), 3, [], 0) := rfl
theorem f248_32 : zF 248 32 = some (.iload_n 1, 1, [], 0) := rfl
theorem f248_33 : zF 248 33 = some (.ireturn, 1, [0], 0) := rfl
theorem f249_0 : zF 249 0 = some (.iload_n 0, 1, [], 0) := rfl
theorem f249_1 : zF 249 1 = some (.bipush 41, 2, [], 0) := rfl
theorem f249_3 : zF 249 3 = some (.if_icmp .eq 15, 3, [], 0) := rfl
theorem f249_6 : zF 249 6 = some (.iload_n 0, 1, [], 0) := rfl
theorem f249_7 : zF 249 7 = some (.bipush 93, 2, [], 0) := rfl
theorem f249_9 : zF 249 9 = some (.if_icmp .eq 9, 3, [], 0) := rfl
theorem f249_12 : zF 249 12 = some (.iload_n 0, 1, [], 0) := rfl
theorem f249_13 : zF 249 13 = some (.bipush 125, 2, [], 0) := rfl
theorem f249_15 : zF 249 15 = some (.if_icmp .ne 7, 3, [], 0) := rfl
theorem f249_18 : zF 249 18 = some (.iconst 1, 1, [], 0) := rfl
theorem f249_19 : zF 249 19 = some (.goto 4, 3, [], 0) := rfl
theorem f249_22 : zF 249 22 = some (.iconst 0, 1, [], 0) := rfl
theorem f249_23 : zF 249 23 = some (.ireturn, 1, [1], 0) := rfl

/-! fetch rows -/
theorem f250_0 : zF 250 0 = some (.new 7, 3, [9, 12], 0) := rfl
theorem f250_3 : zF 250 3 = some (.dup, 1, [], 0) := rfl
theorem f250_4 : zF 250 4 = some (.invokespecial 9, 3, [2, 111, 0, 1, 4, 210, 1600], 0) := rfl
theorem f250_7 : zF 250 7 = some (.astore_n 1, 1, [], 0) := rfl
theorem f250_8 : zF 250 8 = some (.new 10, 3, [10, 47], 0) := rfl
theorem f250_11 : zF 250 11 = some (.dup, 1, [], 0) := rfl
theorem f250_12 : zF 250 12 = some (.invokespecial 12, 3, [2, 150, 0, 1, 2, 50, 8000], 0) := rfl
theorem f250_15 : zF 250 15 = some (.astore_n 2, 1, [], 0) := rfl
theorem f250_16 : zF 250 16 = some (.iconst 0, 1, [], 0) := rfl
theorem f250_17 : zF 250 17 = some (.istore_n 3, 1, [], 0) := rfl
theorem f250_18 : zF 250 18 = some (.iload_n 3, 1, [], 0) := rfl
theorem f250_19 : zF 250 19 = some (.aload_n 0, 1, [], 0) := rfl
theorem f250_20 : zF 250 20 = some (.arraylength, 1, [], 0) := rfl
theorem f250_21 : zF 250 21 = some (.bipush 6, 2, [], 0) := rfl
theorem f250_23 : zF 250 23 = some (.isub, 1, [], 0) := rfl
theorem f250_24 : zF 250 24 = some (.if_icmp .gt 1055, 3, [], 0) := rfl
theorem f250_27 : zF 250 27 = some (.aload_n 0, 1, [], 0) := rfl
theorem f250_28 : zF 250 28 = some (.iload_n 3, 1, [], 0) := rfl
theorem f250_29 : zF 250 29 = some (.iaload, 1, [], 0) := rfl
theorem f250_30 : zF 250 30 = some (.bipush 31, 2, [], 0) := rfl
theorem f250_32 : zF 250 32 = some (.iand, 1, [], 0) := rfl
theorem f250_33 : zF 250 33 = some (.tableswitch 1040 0 28 #[131, 154, 177, 200, 223, 256, 299, 322, 345, 368, 381, 414, 447, 470, 503, 526, 570, 614, 647, 670, 683, 706, 719, 732, 785, 828, 871, 894, 977], 131, [], 0) := rfl
theorem f250_164 : zF 250 164 = some (.aload_n 1, 1, [], 0) := rfl
theorem f250_165 : zF 250 165 = some (.aload_n 0, 1, [], 0) := rfl
theorem f250_166 : zF 250 166 = some (.iload_n 3, 1, [], 0) := rfl
theorem f250_167 : zF 250 167 = some (.iconst 1, 1, [], 0) := rfl
theorem f250_168 : zF 250 168 = some (.iadd, 1, [], 0) := rfl
theorem f250_169 : zF 250 169 = some (.iaload, 1, [], 0) := rfl
theorem f250_170 : zF 250 170 = some (.invokevirtual 13, 3, [0, 112, 9, 2, 2, 0, 0], 0) := rfl
theorem f250_173 : zF 250 173 = some (.aload_n 2, 1, [], 0) := rfl
theorem f250_174 : zF 250 174 = some (.aload_n 0, 1, [], 0) := rfl
theorem f250_175 : zF 250 175 = some (.iload_n 3, 1, [], 0) := rfl
theorem f250_176 : zF 250 176 = some (.iconst 1, 1, [], 0) := rfl
theorem f250_177 : zF 250 177 = some (.iadd, 1, [], 0) := rfl
theorem f250_178 : zF 250 178 = some (.iaload, 1, [], 0) := rfl
theorem f250_179 : zF 250 179 = some (.invokevirtual 17, 3, [0, 179, 10, 2, 2, 0, 0], 0) := rfl
theorem f250_182 : zF 250 182 = some (.if_icmp .eq 891, 3, [], 0) := rfl
theorem f250_185 : zF 250 185 = some (.iconst 0, 1, [], 0) := rfl
theorem f250_186 : zF 250 186 = some (.ireturn, 1, [1], 0) := rfl
theorem f250_187 : zF 250 187 = some (.aload_n 1, 1, [], 0) := rfl
theorem f250_188 : zF 250 188 = some (.aload_n 0, 1, [], 0) := rfl
theorem f250_189 : zF 250 189 = some (.iload_n 3, 1, [], 0) := rfl
theorem f250_190 : zF 250 190 = some (.iconst 1, 1, [], 0) := rfl
theorem f250_191 : zF 250 191 = some (.iadd, 1, [], 0) := rfl
theorem f250_192 : zF 250 192 = some (.iaload, 1, [], 0) := rfl
theorem f250_193 : zF 250 193 = some (.invokevirtual 18, 3, [0, 113, 9, 2, 3, 8, 255], 0) := rfl
theorem f250_196 : zF 250 196 = some (.aload_n 2, 1, [], 0) := rfl
theorem f250_197 : zF 250 197 = some (.aload_n 0, 1, [], 0) := rfl
theorem f250_198 : zF 250 198 = some (.iload_n 3, 1, [], 0) := rfl
theorem f250_199 : zF 250 199 = some (.iconst 1, 1, [], 0) := rfl
theorem f250_200 : zF 250 200 = some (.iadd, 1, [], 0) := rfl
theorem f250_201 : zF 250 201 = some (.iaload, 1, [], 0) := rfl
theorem f250_202 : zF 250 202 = some (.invokevirtual 21, 3, [0, 188, 10, 2, 5, 0, 0], 0) := rfl
theorem f250_205 : zF 250 205 = some (.if_icmp .eq 868, 3, [], 0) := rfl
theorem f250_208 : zF 250 208 = some (.iconst 0, 1, [], 0) := rfl
theorem f250_209 : zF 250 209 = some (.ireturn, 1, [1], 0) := rfl
theorem f250_210 : zF 250 210 = some (.aload_n 1, 1, [], 0) := rfl
theorem f250_211 : zF 250 211 = some (.aload_n 0, 1, [], 0) := rfl
theorem f250_212 : zF 250 212 = some (.iload_n 3, 1, [], 0) := rfl
theorem f250_213 : zF 250 213 = some (.iconst 1, 1, [], 0) := rfl
theorem f250_214 : zF 250 214 = some (.iadd, 1, [], 0) := rfl
theorem f250_215 : zF 250 215 = some (.iaload, 1, [], 0) := rfl
theorem f250_216 : zF 250 216 = some (.invokevirtual 22, 3, [0, 114, 9, 2, 4, 20, 536], 0) := rfl
theorem f250_219 : zF 250 219 = some (.aload_n 2, 1, [], 0) := rfl
theorem f250_220 : zF 250 220 = some (.aload_n 0, 1, [], 0) := rfl
theorem f250_221 : zF 250 221 = some (.iload_n 3, 1, [], 0) := rfl
theorem f250_222 : zF 250 222 = some (.iconst 1, 1, [], 0) := rfl
theorem f250_223 : zF 250 223 = some (.iadd, 1, [], 0) := rfl
theorem f250_224 : zF 250 224 = some (.iaload, 1, [], 0) := rfl
theorem f250_225 : zF 250 225 = some (.invokevirtual 25, 3, [0, 189, 10, 2, 3, 0, 0], 0) := rfl
theorem f250_228 : zF 250 228 = some (.if_icmp .eq 845, 3, [], 0) := by decide +kernel
theorem f250_231 : zF 250 231 = some (.iconst 0, 1, [], 0) := by decide +kernel
theorem f250_232 : zF 250 232 = some (.ireturn, 1, [1], 0) := by decide +kernel
theorem f250_233 : zF 250 233 = some (.aload_n 1, 1, [], 0) := by decide +kernel
theorem f250_234 : zF 250 234 = some (.aload_n 0, 1, [], 0) := by decide +kernel
theorem f250_235 : zF 250 235 = some (.iload_n 3, 1, [], 0) := by decide +kernel
theorem f250_236 : zF 250 236 = some (.iconst 1, 1, [], 0) := by decide +kernel
theorem f250_237 : zF 250 237 = some (.iadd, 1, [], 0) := by decide +kernel
theorem f250_238 : zF 250 238 = some (.iaload, 1, [], 0) := by decide +kernel
theorem f250_239 : zF 250 239 = some (.invokevirtual 26, 3, [0, 115, 9, 2, 2, 0, 0], 0) := by decide +kernel
theorem f250_242 : zF 250 242 = some (.aload_n 2, 1, [], 0) := by decide +kernel
theorem f250_243 : zF 250 243 = some (.aload_n 0, 1, [], 0) := by decide +kernel
theorem f250_244 : zF 250 244 = some (.iload_n 3, 1, [], 0) := by decide +kernel
theorem f250_245 : zF 250 245 = some (.iconst 1, 1, [], 0) := by decide +kernel
theorem f250_246 : zF 250 246 = some (.iadd, 1, [], 0) := by decide +kernel
theorem f250_247 : zF 250 247 = some (.iaload, 1, [], 0) := by decide +kernel
theorem f250_248 : zF 250 248 = some (.invokevirtual 29, 3, [0, 191, 10, 2, 2, 0, 0], 0) := by decide +kernel
theorem f250_251 : zF 250 251 = some (.if_icmp .eq 822, 3, [], 0) := by decide +kernel
theorem f250_254 : zF 250 254 = some (.iconst 0, 1, [], 0) := by decide +kernel
theorem f250_255 : zF 250 255 = some (.ireturn, 1, [1], 0) := by decide +kernel
theorem f250_256 : zF 250 256 = some (.aload_n 1, 1, [], 0) := by decide +kernel
theorem f250_257 : zF 250 257 = some (.aload_n 0, 1, [], 0) := by decide +kernel
theorem f250_258 : zF 250 258 = some (.iload_n 3, 1, [], 0) := by decide +kernel
theorem f250_259 : zF 250 259 = some (.iconst 1, 1, [], 0) := by decide +kernel
theorem f250_260 : zF 250 260 = some (.iadd, 1, [], 0) := by decide +kernel
theorem f250_261 : zF 250 261 = some (.iaload, 1, [], 0) := by decide +kernel
theorem f250_262 : zF 250 262 = some (.aload_n 0, 1, [], 0) := by decide +kernel
theorem f250_263 : zF 250 263 = some (.iload_n 3, 1, [], 0) := by decide +kernel
theorem f250_264 : zF 250 264 = some (.iconst 2, 1, [], 0) := by decide +kernel
theorem f250_265 : zF 250 265 = some (.iadd, 1, [], 0) := by decide +kernel
theorem f250_266 : zF 250 266 = some (.iaload, 1, [], 0) := by decide +kernel
theorem f250_267 : zF 250 267 = some (.invokevirtual 30, 3, [0, 116, 9, 3, 3, 0, 0], 0) := by decide +kernel
theorem f250_270 : zF 250 270 = some (.aload_n 2, 1, [], 0) := by decide +kernel
theorem f250_271 : zF 250 271 = some (.aload_n 0, 1, [], 0) := by decide +kernel
theorem f250_272 : zF 250 272 = some (.iload_n 3, 1, [], 0) := by decide +kernel
theorem f250_273 : zF 250 273 = some (.iconst 1, 1, [], 0) := by decide +kernel
theorem f250_274 : zF 250 274 = some (.iadd, 1, [], 0) := by decide +kernel
theorem f250_275 : zF 250 275 = some (.iaload, 1, [], 0) := by decide +kernel
theorem f250_276 : zF 250 276 = some (.aload_n 0, 1, [], 0) := by decide +kernel
theorem f250_277 : zF 250 277 = some (.iload_n 3, 1, [], 0) := by decide +kernel
theorem f250_278 : zF 250 278 = some (.iconst 2, 1, [], 0) := by decide +kernel
theorem f250_279 : zF 250 279 = some (.iadd, 1, [], 0) := by decide +kernel
theorem f250_280 : zF 250 280 = some (.iaload, 1, [], 0) := by decide +kernel
theorem f250_281 : zF 250 281 = some (.invokevirtual 34, 3, [0, 172, 10, 3, 3, 0, 0], 0) := by decide +kernel
theorem f250_284 : zF 250 284 = some (.if_icmp .eq 789, 3, [], 0) := by decide +kernel
theorem f250_287 : zF 250 287 = some (.iconst 0, 1, [], 0) := by decide +kernel
theorem f250_288 : zF 250 288 = some (.ireturn, 1, [1], 0) := by decide +kernel
theorem f250_289 : zF 250 289 = some (.aload_n 1, 1, [], 0) := by decide +kernel
theorem f250_290 : zF 250 290 = some (.aload_n 0, 1, [], 0) := by decide +kernel
theorem f250_291 : zF 250 291 = some (.iload_n 3, 1, [], 0) := by decide +kernel
theorem f250_292 : zF 250 292 = some (.iconst 1, 1, [], 0) := by decide +kernel
theorem f250_293 : zF 250 293 = some (.iadd, 1, [], 0) := by decide +kernel
theorem f250_294 : zF 250 294 = some (.iaload, 1, [], 0) := by decide +kernel
theorem f250_295 : zF 250 295 = some (.aload_n 0, 1, [], 0) := by decide +kernel
theorem f250_296 : zF 250 296 = some (.iload_n 3, 1, [], 0) := by decide +kernel
theorem f250_297 : zF 250 297 = some (.iconst 2, 1, [], 0) := by decide +kernel
theorem f250_298 : zF 250 298 = some (.iadd, 1, [], 0) := by decide +kernel
theorem f250_299 : zF 250 299 = some (.iaload, 1, [], 0) := by decide +kernel
theorem f250_300 : zF 250 300 = some (.aload_n 0, 1, [], 0) := by decide +kernel
theorem f250_301 : zF 250 301 = some (.iload_n 3, 1, [], 0) := by decide +kernel
theorem f250_302 : zF 250 302 = some (.iconst 3, 1, [], 0) := by decide +kernel
theorem f250_303 : zF 250 303 = some (.iadd, 1, [], 0) := by decide +kernel
theorem f250_304 : zF 250 304 = some (.iaload, 1, [], 0) := by decide +kernel
theorem f250_305 : zF 250 305 = some (.invokevirtual 35, 3, [0, 117, 9, 4, 4, 0, 0], 0) := by decide +kernel
theorem f250_308 : zF 250 308 = some (.aload_n 2, 1, [], 0) := by decide +kernel
theorem f250_309 : zF 250 309 = some (.aload_n 0, 1, [], 0) := by decide +kernel
theorem f250_310 : zF 250 310 = some (.iload_n 3, 1, [], 0) := by decide +kernel
theorem f250_311 : zF 250 311 = some (.iconst 1, 1, [], 0) := by decide +kernel
theorem f250_312 : zF 250 312 = some (.iadd, 1, [], 0) := by decide +kernel
theorem f250_313 : zF 250 313 = some (.iaload, 1, [], 0) := by decide +kernel
theorem f250_314 : zF 250 314 = some (.aload_n 0, 1, [], 0) := by decide +kernel
theorem f250_315 : zF 250 315 = some (.iload_n 3, 1, [], 0) := by decide +kernel
theorem f250_316 : zF 250 316 = some (.iconst 2, 1, [], 0) := by decide +kernel
theorem f250_317 : zF 250 317 = some (.iadd, 1, [], 0) := by decide +kernel
theorem f250_318 : zF 250 318 = some (.iaload, 1, [], 0) := by decide +kernel
theorem f250_319 : zF 250 319 = some (.aload_n 0, 1, [], 0) := by decide +kernel
theorem f250_320 : zF 250 320 = some (.iload_n 3, 1, [], 0) := by decide +kernel
theorem f250_321 : zF 250 321 = some (.iconst 3, 1, [], 0) := by decide +kernel
theorem f250_322 : zF 250 322 = some (.iadd, 1, [], 0) := by decide +kernel
theorem f250_323 : zF 250 323 = some (.iaload, 1, [], 0) := by decide +kernel
theorem f250_324 : zF 250 324 = some (.invokevirtual 39, 3, [0, 173, 10, 4, 4, 0, 0], 0) := by decide +kernel
theorem f250_327 : zF 250 327 = some (.if_icmp .eq 746, 3, [], 0) := by decide +kernel
theorem f250_330 : zF 250 330 = some (.iconst 0, 1, [], 0) := by decide +kernel
theorem f250_331 : zF 250 331 = some (.ireturn, 1, [1], 0) := by decide +kernel
theorem f250_332 : zF 250 332 = some (.aload_n 1, 1, [], 0) := by decide +kernel
theorem f250_333 : zF 250 333 = some (.aload_n 0, 1, [], 0) := by decide +kernel
theorem f250_334 : zF 250 334 = some (.iload_n 3, 1, [], 0) := by decide +kernel
theorem f250_335 : zF 250 335 = some (.iconst 1, 1, [], 0) := by decide +kernel
theorem f250_336 : zF 250 336 = some (.iadd, 1, [], 0) := by decide +kernel
theorem f250_337 : zF 250 337 = some (.iaload, 1, [], 0) := by decide +kernel
theorem f250_338 : zF 250 338 = some (.invokevirtual 40, 3, [0, 118, 9, 2, 3, 0, 0], 0) := by decide +kernel
theorem f250_341 : zF 250 341 = some (.aload_n 2, 1, [], 0) := by decide +kernel
theorem f250_342 : zF 250 342 = some (.aload_n 0, 1, [], 0) := by decide +kernel
theorem f250_343 : zF 250 343 = some (.iload_n 3, 1, [], 0) := by decide +kernel
theorem f250_344 : zF 250 344 = some (.iconst 1, 1, [], 0) := by decide +kernel
theorem f250_345 : zF 250 345 = some (.iadd, 1, [], 0) := by decide +kernel
theorem f250_346 : zF 250 346 = some (.iaload, 1, [], 0) := by decide +kernel
theorem f250_347 : zF 250 347 = some (.invokevirtual 43, 3, [0, 212, 10, 2, 3, 0, 0], 0) := by decide +kernel
theorem f250_350 : zF 250 350 = some (.if_icmp .eq 723, 3, [], 0) := by decide +kernel
theorem f250_353 : zF 250 353 = some (.iconst 0, 1, [], 0) := by decide +kernel
theorem f250_354 : zF 250 354 = some (.ireturn, 1, [1], 0) := by decide +kernel
theorem f250_355 : zF 250 355 = some (.aload_n 1, 1, [], 0) := by decide +kernel
theorem f250_356 : zF 250 356 = some (.aload_n 0, 1, [], 0) := by decide +kernel
theorem f250_357 : zF 250 357 = some (.iload_n 3, 1, [], 0) := by decide +kernel
theorem f250_358 : zF 250 358 = some (.iconst 1, 1, [], 0) := by decide +kernel
theorem f250_359 : zF 250 359 = some (.iadd, 1, [], 0) := by decide +kernel
theorem f250_360 : zF 250 360 = some (.iaload, 1, [], 0) := by decide +kernel
theorem f250_361 : zF 250 361 = some (.invokevirtual 44, 3, [0, 119, 9, 2, 2, 0, 0], 0) := by decide +kernel
theorem f250_364 : zF 250 364 = some (.aload_n 2, 1, [], 0) := by decide +kernel
theorem f250_365 : zF 250 365 = some (.aload_n 0, 1, [], 0) := by decide +kernel
theorem f250_366 : zF 250 366 = some (.iload_n 3, 1, [], 0) := by decide +kernel
theorem f250_367 : zF 250 367 = some (.iconst 1, 1, [], 0) := by decide +kernel
theorem f250_368 : zF 250 368 = some (.iadd, 1, [], 0) := by decide +kernel
theorem f250_369 : zF 250 369 = some (.iaload, 1, [], 0) := by decide +kernel
theorem f250_370 : zF 250 370 = some (.invokevirtual 47, 3, [0, 204, 10, 2, 2, 0, 0], 0) := by decide +kernel
theorem f250_373 : zF 250 373 = some (.if_icmp .eq 700, 3, [], 0) := by decide +kernel
theorem f250_376 : zF 250 376 = some (.iconst 0, 1, [], 0) := by decide +kernel
theorem f250_377 : zF 250 377 = some (.ireturn, 1, [1], 0) := by decide +kernel
theorem f250_378 : zF 250 378 = some (.aload_n 1, 1, [], 0) := by decide +kernel
theorem f250_379 : zF 250 379 = some (.aload_n 0, 1, [], 0) := by decide +kernel
theorem f250_380 : zF 250 380 = some (.iload_n 3, 1, [], 0) := by decide +kernel
theorem f250_381 : zF 250 381 = some (.iconst 1, 1, [], 0) := by decide +kernel
theorem f250_382 : zF 250 382 = some (.iadd, 1, [], 0) := by decide +kernel
theorem f250_383 : zF 250 383 = some (.iaload, 1, [], 0) := by decide +kernel
theorem f250_384 : zF 250 384 = some (.invokevirtual 48, 3, [0, 120, 9, 2, 3, 0, 0], 0) := by decide +kernel
theorem f250_387 : zF 250 387 = some (.aload_n 2, 1, [], 0) := by decide +kernel
theorem f250_388 : zF 250 388 = some (.aload_n 0, 1, [], 0) := by decide +kernel
theorem f250_389 : zF 250 389 = some (.iload_n 3, 1, [], 0) := by decide +kernel
theorem f250_390 : zF 250 390 = some (.iconst 1, 1, [], 0) := by decide +kernel
theorem f250_391 : zF 250 391 = some (.iadd, 1, [], 0) := by decide +kernel
theorem f250_392 : zF 250 392 = some (.iaload, 1, [], 0) := by decide +kernel
theorem f250_393 : zF 250 393 = some (.invokevirtual 51, 3, [0, 208, 10, 2, 5, 0, 0], 0) := by decide +kernel
theorem f250_396 : zF 250 396 = some (.if_icmp .eq 677, 3, [], 0) := by decide +kernel
theorem f250_399 : zF 250 399 = some (.iconst 0, 1, [], 0) := by decide +kernel
theorem f250_400 : zF 250 400 = some (.ireturn, 1, [1], 0) := by decide +kernel
theorem f250_401 : zF 250 401 = some (.aload_n 1, 1, [], 0) := by decide +kernel
theorem f250_402 : zF 250 402 = some (.invokevirtual 52, 3, [0, 121, 9, 1, 1, 0, 0], 0) := by decide +kernel
theorem f250_405 : zF 250 405 = some (.aload_n 2, 1, [], 0) := by decide +kernel
theorem f250_406 : zF 250 406 = some (.invokevirtual 56, 3, [0, 211, 10, 1, 2, 0, 0], 0) := by decide +kernel
theorem f250_409 : zF 250 409 = some (.if_icmp .eq 664, 3, [], 0) := by decide +kernel
theorem f250_412 : zF 250 412 = some (.iconst 0, 1, [], 0) := by decide +kernel
theorem f250_413 : zF 250 413 = some (.ireturn, 1, [1], 0) := by decide +kernel
theorem f250_414 : zF 250 414 = some (.aload_n 1, 1, [], 0) := by decide +kernel
theorem f250_415 : zF 250 415 = some (.aload_n 0, 1, [], 0) := by decide +kernel
theorem f250_416 : zF 250 416 = some (.iload_n 3, 1, [], 0) := by decide +kernel
theorem f250_417 : zF 250 417 = some (.iconst 1, 1, [], 0) := by decide +kernel
theorem f250_418 : zF 250 418 = some (.iadd, 1, [], 0) := by decide +kernel
theorem f250_419 : zF 250 419 = some (.iaload, 1, [], 0) := by decide +kernel
theorem f250_420 : zF 250 420 = some (.aload_n 0, 1, [], 0) := by decide +kernel
theorem f250_421 : zF 250 421 = some (.iload_n 3, 1, [], 0) := by decide +kernel
theorem f250_422 : zF 250 422 = some (.iconst 2, 1, [], 0) := by decide +kernel
theorem f250_423 : zF 250 423 = some (.iadd, 1, [], 0) := by decide +kernel
theorem f250_424 : zF 250 424 = some (.iaload, 1, [], 0) := by decide +kernel
theorem f250_425 : zF 250 425 = some (.invokevirtual 57, 3, [0, 122, 9, 3, 3, 0, 0], 0) := by decide +kernel
theorem f250_428 : zF 250 428 = some (.aload_n 2, 1, [], 0) := by decide +kernel
theorem f250_429 : zF 250 429 = some (.aload_n 0, 1, [], 0) := by decide +kernel
theorem f250_430 : zF 250 430 = some (.iload_n 3, 1, [], 0) := by decide +kernel
theorem f250_431 : zF 250 431 = some (.iconst 1, 1, [], 0) := by decide +kernel
theorem f250_432 : zF 250 432 = some (.iadd, 1, [], 0) := by decide +kernel
theorem f250_433 : zF 250 433 = some (.iaload, 1, [], 0) := by decide +kernel
theorem f250_434 : zF 250 434 = some (.aload_n 0, 1, [], 0) := by decide +kernel
theorem f250_435 : zF 250 435 = some (.iload_n 3, 1, [], 0) := by decide +kernel
theorem f250_436 : zF 250 436 = some (.iconst 2, 1, [], 0) := by decide +kernel
theorem f250_437 : zF 250 437 = some (.iadd, 1, [], 0) := by decide +kernel
theorem f250_438 : zF 250 438 = some (.iaload, 1, [], 0) := by decide +kernel
theorem f250_439 : zF 250 439 = some (.invokevirtual 60, 3, [0, 214, 10, 3, 4, 0, 0], 0) := by decide +kernel
theorem f250_442 : zF 250 442 = some (.if_icmp .eq 631, 3, [], 0) := by decide +kernel
theorem f250_445 : zF 250 445 = some (.iconst 0, 1, [], 0) := by decide +kernel
theorem f250_446 : zF 250 446 = some (.ireturn, 1, [1], 0) := by decide +kernel
theorem f250_447 : zF 250 447 = some (.aload_n 1, 1, [], 0) := by decide +kernel
theorem f250_448 : zF 250 448 = some (.aload_n 0, 1, [], 0) := by decide +kernel
theorem f250_449 : zF 250 449 = some (.iload_n 3, 1, [], 0) := by decide +kernel
theorem f250_450 : zF 250 450 = some (.iconst 1, 1, [], 0) := by decide +kernel
theorem f250_451 : zF 250 451 = some (.iadd, 1, [], 0) := by decide +kernel
theorem f250_452 : zF 250 452 = some (.iaload, 1, [], 0) := by decide +kernel
theorem f250_453 : zF 250 453 = some (.aload_n 0, 1, [], 0) := by decide +kernel
theorem f250_454 : zF 250 454 = some (.iload_n 3, 1, [], 0) := by decide +kernel
theorem f250_455 : zF 250 455 = some (.iconst 2, 1, [], 0) := by decide +kernel
theorem f250_456 : zF 250 456 = some (.iadd, 1, [], 0) := by decide +kernel
theorem f250_457 : zF 250 457 = some (.iaload, 1, [], 0) := by decide +kernel
theorem f250_458 : zF 250 458 = some (.invokevirtual 61, 3, [0, 123, 9, 3, 3, 0, 0], 0) := by decide +kernel
theorem f250_461 : zF 250 461 = some (.aload_n 2, 1, [], 0) := by decide +kernel
theorem f250_462 : zF 250 462 = some (.aload_n 0, 1, [], 0) := by decide +kernel
theorem f250_463 : zF 250 463 = some (.iload_n 3, 1, [], 0) := by decide +kernel
theorem f250_464 : zF 250 464 = some (.iconst 1, 1, [], 0) := by decide +kernel
theorem f250_465 : zF 250 465 = some (.iadd, 1, [], 0) := by decide +kernel
theorem f250_466 : zF 250 466 = some (.iaload, 1, [], 0) := by decide +kernel
theorem f250_467 : zF 250 467 = some (.aload_n 0, 1, [], 0) := by decide +kernel
theorem f250_468 : zF 250 468 = some (.iload_n 3, 1, [], 0) := by decide +kernel
theorem f250_469 : zF 250 469 = some (.iconst 2, 1, [], 0) := by decide +kernel
theorem f250_470 : zF 250 470 = some (.iadd, 1, [], 0) := by decide +kernel
theorem f250_471 : zF 250 471 = some (.iaload, 1, [], 0) := by decide +kernel
theorem f250_472 : zF 250 472 = some (.invokevirtual 64, 3, [0, 215, 10, 3, 3, 0, 0], 0) := by decide +kernel
theorem f250_475 : zF 250 475 = some (.if_icmp .eq 598, 3, [], 0) := by decide +kernel
theorem f250_478 : zF 250 478 = some (.iconst 0, 1, [], 0) := by decide +kernel
theorem f250_479 : zF 250 479 = some (.ireturn, 1, [1], 0) := by decide +kernel
theorem f250_480 : zF 250 480 = some (.aload_n 1, 1, [], 0) := by decide +kernel
theorem f250_481 : zF 250 481 = some (.aload_n 0, 1, [], 0) := by decide +kernel
theorem f250_482 : zF 250 482 = some (.iload_n 3, 1, [], 0) := by decide +kernel
theorem f250_483 : zF 250 483 = some (.iconst 1, 1, [], 0) := by decide +kernel
theorem f250_484 : zF 250 484 = some (.iadd, 1, [], 0) := by decide +kernel
theorem f250_485 : zF 250 485 = some (.iaload, 1, [], 0) := by decide +kernel
theorem f250_486 : zF 250 486 = some (.invokevirtual 65, 3, [0, 124, 9, 2, 2, 0, 0], 0) := by decide +kernel
theorem f250_489 : zF 250 489 = some (.aload_n 2, 1, [], 0) := by decide +kernel
theorem f250_490 : zF 250 490 = some (.aload_n 0, 1, [], 0) := by decide +kernel
theorem f250_491 : zF 250 491 = some (.iload_n 3, 1, [], 0) := by decide +kernel
theorem f250_492 : zF 250 492 = some (.iconst 1, 1, [], 0) := by decide +kernel
theorem f250_493 : zF 250 493 = some (.iadd, 1, [], 0) := by decide +kernel
theorem f250_494 : zF 250 494 = some (.iaload, 1, [], 0) := by decide +kernel
theorem f250_495 : zF 250 495 = some (.invokevirtual 68, 3, [0, 218, 10, 2, 2, 0, 0], 0) := by decide +kernel
theorem f250_498 : zF 250 498 = some (.if_icmp .eq 575, 3, [], 0) := by decide +kernel
theorem f250_501 : zF 250 501 = some (.iconst 0, 1, [], 0) := by decide +kernel
theorem f250_502 : zF 250 502 = some (.ireturn, 1, [1], 0) := by decide +kernel
theorem f250_503 : zF 250 503 = some (.aload_n 1, 1, [], 0) := by decide +kernel
theorem f250_504 : zF 250 504 = some (.aload_n 0, 1, [], 0) := by decide +kernel
theorem f250_505 : zF 250 505 = some (.iload_n 3, 1, [], 0) := by decide +kernel
theorem f250_506 : zF 250 506 = some (.iconst 1, 1, [], 0) := by decide +kernel
theorem f250_507 : zF 250 507 = some (.iadd, 1, [], 0) := by decide +kernel
theorem f250_508 : zF 250 508 = some (.iaload, 1, [], 0) := by decide +kernel
theorem f250_509 : zF 250 509 = some (.aload_n 0, 1, [], 0) := by decide +kernel
theorem f250_510 : zF 250 510 = some (.iload_n 3, 1, [], 0) := by decide +kernel
theorem f250_511 : zF 250 511 = some (.iconst 2, 1, [], 0) := by decide +kernel
theorem f250_512 : zF 250 512 = some (.iadd, 1, [], 0) := by decide +kernel
theorem f250_513 : zF 250 513 = some (.iaload, 1, [], 0) := by decide +kernel
theorem f250_514 : zF 250 514 = some (.invokevirtual 69, 3, [0, 125, 9, 3, 3, 0, 0], 0) := by decide +kernel
theorem f250_517 : zF 250 517 = some (.aload_n 2, 1, [], 0) := by decide +kernel
theorem f250_518 : zF 250 518 = some (.aload_n 0, 1, [], 0) := by decide +kernel
theorem f250_519 : zF 250 519 = some (.iload_n 3, 1, [], 0) := by decide +kernel
theorem f250_520 : zF 250 520 = some (.iconst 1, 1, [], 0) := by decide +kernel
theorem f250_521 : zF 250 521 = some (.iadd, 1, [], 0) := by decide +kernel
theorem f250_522 : zF 250 522 = some (.iaload, 1, [], 0) := by decide +kernel
theorem f250_523 : zF 250 523 = some (.aload_n 0, 1, [], 0) := by decide +kernel
theorem f250_524 : zF 250 524 = some (.iload_n 3, 1, [], 0) := by decide +kernel
theorem f250_525 : zF 250 525 = some (.iconst 2, 1, [], 0) := by decide +kernel
theorem f250_526 : zF 250 526 = some (.iadd, 1, [], 0) := by decide +kernel
theorem f250_527 : zF 250 527 = some (.iaload, 1, [], 0) := by decide +kernel
theorem f250_528 : zF 250 528 = some (.invokevirtual 72, 3, [0, 220, 10, 3, 3, 0, 0], 0) := by decide +kernel
theorem f250_531 : zF 250 531 = some (.if_icmp .eq 542, 3, [], 0) := by decide +kernel
theorem f250_534 : zF 250 534 = some (.iconst 0, 1, [], 0) := by decide +kernel
theorem f250_535 : zF 250 535 = some (.ireturn, 1, [1], 0) := by decide +kernel
theorem f250_536 : zF 250 536 = some (.aload_n 1, 1, [], 0) := by decide +kernel
theorem f250_537 : zF 250 537 = some (.aload_n 0, 1, [], 0) := by decide +kernel
theorem f250_538 : zF 250 538 = some (.iload_n 3, 1, [], 0) := by decide +kernel
theorem f250_539 : zF 250 539 = some (.iconst 1, 1, [], 0) := by decide +kernel
theorem f250_540 : zF 250 540 = some (.iadd, 1, [], 0) := by decide +kernel
theorem f250_541 : zF 250 541 = some (.iaload, 1, [], 0) := by decide +kernel
theorem f250_542 : zF 250 542 = some (.invokevirtual 73, 3, [0, 126, 9, 2, 2, 0, 0], 0) := by decide +kernel
theorem f250_545 : zF 250 545 = some (.aload_n 2, 1, [], 0) := by decide +kernel
theorem f250_546 : zF 250 546 = some (.aload_n 0, 1, [], 0) := by decide +kernel
theorem f250_547 : zF 250 547 = some (.iload_n 3, 1, [], 0) := by decide +kernel
theorem f250_548 : zF 250 548 = some (.iconst 1, 1, [], 0) := by decide +kernel
theorem f250_549 : zF 250 549 = some (.iadd, 1, [], 0) := by decide +kernel
theorem f250_550 : zF 250 550 = some (.iaload, 1, [], 0) := by decide +kernel
theorem f250_551 : zF 250 551 = some (.invokevirtual 76, 3, [0, 222, 10, 2, 6, 0, 0], 0) := by decide +kernel
theorem f250_554 : zF 250 554 = some (.if_icmp .eq 519, 3, [], 0) := by decide +kernel
theorem f250_557 : zF 250 557 = some (.iconst 0, 1, [], 0) := by decide +kernel
theorem f250_558 : zF 250 558 = some (.ireturn, 1, [1], 0) := by decide +kernel
theorem f250_559 : zF 250 559 = some (.aload_n 1, 1, [], 0) := by decide +kernel
theorem f250_560 : zF 250 560 = some (.aload_n 0, 1, [], 0) := by decide +kernel
theorem f250_561 : zF 250 561 = some (.iload_n 3, 1, [], 0) := by decide +kernel
theorem f250_562 : zF 250 562 = some (.iconst 1, 1, [], 0) := by decide +kernel
theorem f250_563 : zF 250 563 = some (.iadd, 1, [], 0) := by decide +kernel
theorem f250_564 : zF 250 564 = some (.iaload, 1, [], 0) := by decide +kernel
theorem f250_565 : zF 250 565 = some (.aload_n 0, 1, [], 0) := by decide +kernel
theorem f250_566 : zF 250 566 = some (.iload_n 3, 1, [], 0) := by decide +kernel
theorem f250_567 : zF 250 567 = some (.iconst 2, 1, [], 0) := by decide +kernel
theorem f250_568 : zF 250 568 = some (.iadd, 1, [], 0) := by decide +kernel
theorem f250_569 : zF 250 569 = some (.iaload, 1, [], 0) := by decide +kernel
theorem f250_570 : zF 250 570 = some (.aload_n 0, 1, [], 0) := by decide +kernel
theorem f250_571 : zF 250 571 = some (.iload_n 3, 1, [], 0) := by decide +kernel
theorem f250_572 : zF 250 572 = some (.iconst 3, 1, [], 0) := by decide +kernel
theorem f250_573 : zF 250 573 = some (.iadd, 1, [], 0) := by decide +kernel
theorem f250_574 : zF 250 574 = some (.iaload, 1, [], 0) := by decide +kernel
theorem f250_575 : zF 250 575 = some (.invokevirtual 77, 3, [0, 127, 9, 4, 4, 0, 0], 0) := by decide +kernel
theorem f250_578 : zF 250 578 = some (.aload_n 2, 1, [], 0) := by decide +kernel
theorem f250_579 : zF 250 579 = some (.aload_n 0, 1, [], 0) := by decide +kernel
theorem f250_580 : zF 250 580 = some (.iload_n 3, 1, [], 0) := by decide +kernel
theorem f250_581 : zF 250 581 = some (.iconst 1, 1, [], 0) := by decide +kernel
theorem f250_582 : zF 250 582 = some (.iadd, 1, [], 0) := by decide +kernel
theorem f250_583 : zF 250 583 = some (.iaload, 1, [], 0) := by decide +kernel
theorem f250_584 : zF 250 584 = some (.aload_n 0, 1, [], 0) := by decide +kernel
theorem f250_585 : zF 250 585 = some (.iload_n 3, 1, [], 0) := by decide +kernel
theorem f250_586 : zF 250 586 = some (.iconst 2, 1, [], 0) := by decide +kernel
theorem f250_587 : zF 250 587 = some (.iadd, 1, [], 0) := by decide +kernel
theorem f250_588 : zF 250 588 = some (.iaload, 1, [], 0) := by decide +kernel
theorem f250_589 : zF 250 589 = some (.aload_n 0, 1, [], 0) := by decide +kernel
theorem f250_590 : zF 250 590 = some (.iload_n 3, 1, [], 0) := by decide +kernel
theorem f250_591 : zF 250 591 = some (.iconst 3, 1, [], 0) := by decide +kernel
theorem f250_592 : zF 250 592 = some (.iadd, 1, [], 0) := by decide +kernel
theorem f250_593 : zF 250 593 = some (.iaload, 1, [], 0) := by decide +kernel
theorem f250_594 : zF 250 594 = some (.invokevirtual 81, 3, [0, 227, 10, 4, 4, 0, 0], 0) := by decide +kernel
theorem f250_597 : zF 250 597 = some (.lcmp, 1, [], 0) := by decide +kernel
theorem f250_598 : zF 250 598 = some (.ifCond .eq 475, 3, [], 0) := by decide +kernel
theorem f250_601 : zF 250 601 = some (.iconst 0, 1, [], 0) := by decide +kernel
theorem f250_602 : zF 250 602 = some (.ireturn, 1, [1], 0) := by decide +kernel
theorem f250_603 : zF 250 603 = some (.aload_n 1, 1, [], 0) := by decide +kernel
theorem f250_604 : zF 250 604 = some (.aload_n 0, 1, [], 0) := by decide +kernel
theorem f250_605 : zF 250 605 = some (.iload_n 3, 1, [], 0) := by decide +kernel
theorem f250_606 : zF 250 606 = some (.iconst 1, 1, [], 0) := by decide +kernel
theorem f250_607 : zF 250 607 = some (.iadd, 1, [], 0) := by decide +kernel
theorem f250_608 : zF 250 608 = some (.iaload, 1, [], 0) := by decide +kernel
theorem f250_609 : zF 250 609 = some (.aload_n 0, 1, [], 0) := by decide +kernel
theorem f250_610 : zF 250 610 = some (.iload_n 3, 1, [], 0) := by decide +kernel
theorem f250_611 : zF 250 611 = some (.iconst 2, 1, [], 0) := by decide +kernel
theorem f250_612 : zF 250 612 = some (.iadd, 1, [], 0) := by decide +kernel
theorem f250_613 : zF 250 613 = some (.iaload, 1, [], 0) := by decide +kernel
theorem f250_614 : zF 250 614 = some (.aload_n 0, 1, [], 0) := by decide +kernel
theorem f250_615 : zF 250 615 = some (.iload_n 3, 1, [], 0) := by decide +kernel
theorem f250_616 : zF 250 616 = some (.iconst 3, 1, [], 0) := by decide +kernel
theorem f250_617 : zF 250 617 = some (.iadd, 1, [], 0) := by decide +kernel
theorem f250_618 : zF 250 618 = some (.iaload, 1, [], 0) := by decide +kernel
theorem f250_619 : zF 250 619 = some (.invokevirtual 82, 3, [0, 128, 9, 4, 4, 0, 0], 0) := by decide +kernel
theorem f250_622 : zF 250 622 = some (.aload_n 2, 1, [], 0) := by decide +kernel
theorem f250_623 : zF 250 623 = some (.aload_n 0, 1, [], 0) := by decide +kernel
theorem f250_624 : zF 250 624 = some (.iload_n 3, 1, [], 0) := by decide +kernel
theorem f250_625 : zF 250 625 = some (.iconst 1, 1, [], 0) := by decide +kernel
theorem f250_626 : zF 250 626 = some (.iadd, 1, [], 0) := by decide +kernel
theorem f250_627 : zF 250 627 = some (.iaload, 1, [], 0) := by decide +kernel
theorem f250_628 : zF 250 628 = some (.aload_n 0, 1, [], 0) := by decide +kernel
theorem f250_629 : zF 250 629 = some (.iload_n 3, 1, [], 0) := by decide +kernel
theorem f250_630 : zF 250 630 = some (.iconst 2, 1, [], 0) := by decide +kernel
theorem f250_631 : zF 250 631 = some (.iadd, 1, [], 0) := by decide +kernel
theorem f250_632 : zF 250 632 = some (.iaload, 1, [], 0) := by decide +kernel
theorem f250_633 : zF 250 633 = some (.aload_n 0, 1, [], 0) := by decide +kernel
theorem f250_634 : zF 250 634 = some (.iload_n 3, 1, [], 0) := by decide +kernel
theorem f250_635 : zF 250 635 = some (.iconst 3, 1, [], 0) := by decide +kernel
theorem f250_636 : zF 250 636 = some (.iadd, 1, [], 0) := by decide +kernel
theorem f250_637 : zF 250 637 = some (.iaload, 1, [], 0) := by decide +kernel
theorem f250_638 : zF 250 638 = some (.invokevirtual 85, 3, [0, 228, 10, 4, 8, 0, 0], 0) := by decide +kernel
theorem f250_641 : zF 250 641 = some (.lcmp, 1, [], 0) := by decide +kernel
theorem f250_642 : zF 250 642 = some (.ifCond .eq 431, 3, [], 0) := by decide +kernel
theorem f250_645 : zF 250 645 = some (.iconst 0, 1, [], 0) := by decide +kernel
theorem f250_646 : zF 250 646 = some (.ireturn, 1, [1], 0) := by decide +kernel
theorem f250_647 : zF 250 647 = some (.aload_n 1, 1, [], 0) := by decide +kernel
theorem f250_648 : zF 250 648 = some (.aload_n 0, 1, [], 0) := by decide +kernel
theorem f250_649 : zF 250 649 = some (.iload_n 3, 1, [], 0) := by decide +kernel
theorem f250_650 : zF 250 650 = some (.iconst 1, 1, [], 0) := by decide +kernel
theorem f250_651 : zF 250 651 = some (.iadd, 1, [], 0) := by decide +kernel
theorem f250_652 : zF 250 652 = some (.iaload, 1, [], 0) := by decide +kernel
theorem f250_653 : zF 250 653 = some (.aload_n 0, 1, [], 0) := by decide +kernel
theorem f250_654 : zF 250 654 = some (.iload_n 3, 1, [], 0) := by decide +kernel
theorem f250_655 : zF 250 655 = some (.iconst 2, 1, [], 0) := by decide +kernel
theorem f250_656 : zF 250 656 = some (.iadd, 1, [], 0) := by decide +kernel
theorem f250_657 : zF 250 657 = some (.iaload, 1, [], 0) := by decide +kernel
theorem f250_658 : zF 250 658 = some (.invokevirtual 86, 3, [0, 129, 9, 3, 3, 0, 0], 0) := by decide +kernel
theorem f250_661 : zF 250 661 = some (.aload_n 2, 1, [], 0) := by decide +kernel
theorem f250_662 : zF 250 662 = some (.aload_n 0, 1, [], 0) := by decide +kernel
theorem f250_663 : zF 250 663 = some (.iload_n 3, 1, [], 0) := by decide +kernel
theorem f250_664 : zF 250 664 = some (.iconst 1, 1, [], 0) := by decide +kernel
theorem f250_665 : zF 250 665 = some (.iadd, 1, [], 0) := by decide +kernel
theorem f250_666 : zF 250 666 = some (.iaload, 1, [], 0) := by decide +kernel
theorem f250_667 : zF 250 667 = some (.aload_n 0, 1, [], 0) := by decide +kernel
theorem f250_668 : zF 250 668 = some (.iload_n 3, 1, [], 0) := by decide +kernel
theorem f250_669 : zF 250 669 = some (.iconst 2, 1, [], 0) := by decide +kernel
theorem f250_670 : zF 250 670 = some (.iadd, 1, [], 0) := by decide +kernel
theorem f250_671 : zF 250 671 = some (.iaload, 1, [], 0) := by decide +kernel
theorem f250_672 : zF 250 672 = some (.invokevirtual 89, 3, [0, 229, 10, 3, 3, 0, 0], 0) := by decide +kernel
theorem f250_675 : zF 250 675 = some (.if_icmp .eq 398, 3, [], 0) := by decide +kernel
theorem f250_678 : zF 250 678 = some (.iconst 0, 1, [], 0) := by decide +kernel
theorem f250_679 : zF 250 679 = some (.ireturn, 1, [1], 0) := by decide +kernel
theorem f250_680 : zF 250 680 = some (.aload_n 1, 1, [], 0) := by decide +kernel
theorem f250_681 : zF 250 681 = some (.aload_n 0, 1, [], 0) := by decide +kernel
theorem f250_682 : zF 250 682 = some (.iload_n 3, 1, [], 0) := by decide +kernel
theorem f250_683 : zF 250 683 = some (.iconst 1, 1, [], 0) := by decide +kernel
theorem f250_684 : zF 250 684 = some (.iadd, 1, [], 0) := by decide +kernel
theorem f250_685 : zF 250 685 = some (.iaload, 1, [], 0) := by decide +kernel
theorem f250_686 : zF 250 686 = some (.invokevirtual 90, 3, [0, 130, 9, 2, 3, 0, 0], 0) := by decide +kernel
theorem f250_689 : zF 250 689 = some (.aload_n 2, 1, [], 0) := by decide +kernel
theorem f250_690 : zF 250 690 = some (.aload_n 0, 1, [], 0) := by decide +kernel
theorem f250_691 : zF 250 691 = some (.iload_n 3, 1, [], 0) := by decide +kernel
theorem f250_692 : zF 250 692 = some (.iconst 1, 1, [], 0) := by decide +kernel
theorem f250_693 : zF 250 693 = some (.iadd, 1, [], 0) := by decide +kernel
theorem f250_694 : zF 250 694 = some (.iaload, 1, [], 0) := by decide +kernel
theorem f250_695 : zF 250 695 = some (.invokevirtual 93, 3, [0, 230, 10, 2, 6, 0, 0], 0) := by decide +kernel
theorem f250_698 : zF 250 698 = some (.if_icmp .eq 375, 3, [], 0) := by decide +kernel
theorem f250_701 : zF 250 701 = some (.iconst 0, 1, [], 0) := by decide +kernel
theorem f250_702 : zF 250 702 = some (.ireturn, 1, [1], 0) := by decide +kernel
theorem f250_703 : zF 250 703 = some (.aload_n 1, 1, [], 0) := by decide +kernel
theorem f250_704 : zF 250 704 = some (.invokevirtual 94, 3, [0, 131, 9, 1, 1, 0, 0], 0) := by decide +kernel
theorem f250_707 : zF 250 707 = some (.aload_n 2, 1, [], 0) := by decide +kernel
theorem f250_708 : zF 250 708 = some (.invokevirtual 97, 3, [0, 231, 10, 1, 2, 0, 0], 0) := by decide +kernel
theorem f250_711 : zF 250 711 = some (.if_icmp .eq 362, 3, [], 0) := by decide +kernel
theorem f250_714 : zF 250 714 = some (.iconst 0, 1, [], 0) := by decide +kernel
theorem f250_715 : zF 250 715 = some (.ireturn, 1, [1], 0) := by decide +kernel
theorem f250_716 : zF 250 716 = some (.aload_n 1, 1, [], 0) := by decide +kernel
theorem f250_717 : zF 250 717 = some (.aload_n 0, 1, [], 0) := by decide +kernel
theorem f250_718 : zF 250 718 = some (.iload_n 3, 1, [], 0) := by decide +kernel
theorem f250_719 : zF 250 719 = some (.iconst 1, 1, [], 0) := by decide +kernel
theorem f250_720 : zF 250 720 = some (.iadd, 1, [], 0) := by decide +kernel
theorem f250_721 : zF 250 721 = some (.iaload, 1, [], 0) := by decide +kernel
theorem f250_722 : zF 250 722 = some (.invokevirtual 98, 3, [0, 132, 9, 2, 2, 0, 0], 0) := by decide +kernel
theorem f250_725 : zF 250 725 = some (.aload_n 2, 1, [], 0) := by decide +kernel
theorem f250_726 : zF 250 726 = some (.aload_n 0, 1, [], 0) := by decide +kernel
theorem f250_727 : zF 250 727 = some (.iload_n 3, 1, [], 0) := by decide +kernel
theorem f250_728 : zF 250 728 = some (.iconst 1, 1, [], 0) := by decide +kernel
theorem f250_729 : zF 250 729 = some (.iadd, 1, [], 0) := by decide +kernel
theorem f250_730 : zF 250 730 = some (.iaload, 1, [], 0) := by decide +kernel
theorem f250_731 : zF 250 731 = some (.invokevirtual 101, 3, [0, 232, 10, 2, 3, 0, 0], 0) := by decide +kernel
theorem f250_734 : zF 250 734 = some (.if_icmp .eq 339, 3, [], 0) := by decide +kernel
theorem f250_737 : zF 250 737 = some (.iconst 0, 1, [], 0) := by decide +kernel
theorem f250_738 : zF 250 738 = some (.ireturn, 1, [1], 0) := by decide +kernel
theorem f250_739 : zF 250 739 = some (.aload_n 1, 1, [], 0) := by decide +kernel
theorem f250_740 : zF 250 740 = some (.invokevirtual 102, 3, [0, 133, 9, 1, 1, 0, 0], 0) := by decide +kernel
theorem f250_743 : zF 250 743 = some (.aload_n 2, 1, [], 0) := by decide +kernel
theorem f250_744 : zF 250 744 = some (.invokevirtual 105, 3, [0, 233, 10, 1, 2, 0, 0], 0) := by decide +kernel
theorem f250_747 : zF 250 747 = some (.if_icmp .eq 326, 3, [], 0) := by decide +kernel
theorem f250_750 : zF 250 750 = some (.iconst 0, 1, [], 0) := by decide +kernel
theorem f250_751 : zF 250 751 = some (.ireturn, 1, [1], 0) := by decide +kernel
theorem f250_752 : zF 250 752 = some (.aload_n 1, 1, [], 0) := by decide +kernel
theorem f250_753 : zF 250 753 = some (.invokevirtual 106, 3, [0, 134, 9, 1, 1, 0, 0], 0) := by decide +kernel
theorem f250_756 : zF 250 756 = some (.aload_n 2, 1, [], 0) := by decide +kernel
theorem f250_757 : zF 250 757 = some (.invokevirtual 109, 3, [0, 234, 10, 1, 2, 0, 0], 0) := by decide +kernel
theorem f250_760 : zF 250 760 = some (.if_icmp .eq 313, 3, [], 0) := by decide +kernel
theorem f250_763 : zF 250 763 = some (.iconst 0, 1, [], 0) := by decide +kernel
theorem f250_764 : zF 250 764 = some (.ireturn, 1, [1], 0) := by decide +kernel
theorem f250_765 : zF 250 765 = some (.aload_n 1, 1, [], 0) := by decide +kernel
theorem f250_766 : zF 250 766 = some (.aload_n 0, 1, [], 0) := by decide +kernel
theorem f250_767 : zF 250 767 = some (.iload_n 3, 1, [], 0) := by decide +kernel
theorem f250_768 : zF 250 768 = some (.iconst 1, 1, [], 0) := by decide +kernel
theorem f250_769 : zF 250 769 = some (.iadd, 1, [], 0) := by decide +kernel
theorem f250_770 : zF 250 770 = some (.iaload, 1, [], 0) := by decide +kernel
theorem f250_771 : zF 250 771 = some (.aload_n 0, 1, [], 0) := by decide +kernel
theorem f250_772 : zF 250 772 = some (.iload_n 3, 1, [], 0) := by decide +kernel
theorem f250_773 : zF 250 773 = some (.iconst 2, 1, [], 0) := by decide +kernel
theorem f250_774 : zF 250 774 = some (.iadd, 1, [], 0) := by decide +kernel
theorem f250_775 : zF 250 775 = some (.iaload, 1, [], 0) := by decide +kernel
theorem f250_776 : zF 250 776 = some (.aload_n 0, 1, [], 0) := by decide +kernel
theorem f250_777 : zF 250 777 = some (.iload_n 3, 1, [], 0) := by decide +kernel
theorem f250_778 : zF 250 778 = some (.iconst 3, 1, [], 0) := by decide +kernel
theorem f250_779 : zF 250 779 = some (.iadd, 1, [], 0) := by decide +kernel
theorem f250_780 : zF 250 780 = some (.iaload, 1, [], 0) := by decide +kernel
theorem f250_781 : zF 250 781 = some (.aload_n 0, 1, [], 0) := by decide +kernel
theorem f250_782 : zF 250 782 = some (.iload_n 3, 1, [], 0) := by decide +kernel
theorem f250_783 : zF 250 783 = some (.iconst 4, 1, [], 0) := by decide +kernel
theorem f250_784 : zF 250 784 = some (.iadd, 1, [], 0) := by decide +kernel
theorem f250_785 : zF 250 785 = some (.iaload, 1, [], 0) := by decide +kernel
theorem f250_786 : zF 250 786 = some (.invokevirtual 110, 3, [0, 135, 9, 5, 6, 0, 0], 0) := by decide +kernel
theorem f250_789 : zF 250 789 = some (.aload_n 2, 1, [], 0) := by decide +kernel
theorem f250_790 : zF 250 790 = some (.aload_n 0, 1, [], 0) := by decide +kernel
theorem f250_791 : zF 250 791 = some (.iload_n 3, 1, [], 0) := by decide +kernel
theorem f250_792 : zF 250 792 = some (.iconst 1, 1, [], 0) := by decide +kernel
theorem f250_793 : zF 250 793 = some (.iadd, 1, [], 0) := by decide +kernel
theorem f250_794 : zF 250 794 = some (.iaload, 1, [], 0) := by decide +kernel
theorem f250_795 : zF 250 795 = some (.aload_n 0, 1, [], 0) := by decide +kernel
theorem f250_796 : zF 250 796 = some (.iload_n 3, 1, [], 0) := by decide +kernel
theorem f250_797 : zF 250 797 = some (.iconst 2, 1, [], 0) := by decide +kernel
theorem f250_798 : zF 250 798 = some (.iadd, 1, [], 0) := by decide +kernel
theorem f250_799 : zF 250 799 = some (.iaload, 1, [], 0) := by decide +kernel
theorem f250_800 : zF 250 800 = some (.aload_n 0, 1, [], 0) := by decide +kernel
theorem f250_801 : zF 250 801 = some (.iload_n 3, 1, [], 0) := by decide +kernel
theorem f250_802 : zF 250 802 = some (.iconst 3, 1, [], 0) := by decide +kernel
theorem f250_803 : zF 250 803 = some (.iadd, 1, [], 0) := by decide +kernel
theorem f250_804 : zF 250 804 = some (.iaload, 1, [], 0) := by decide +kernel
theorem f250_805 : zF 250 805 = some (.aload_n 0, 1, [], 0) := by decide +kernel
theorem f250_806 : zF 250 806 = some (.iload_n 3, 1, [], 0) := by decide +kernel
theorem f250_807 : zF 250 807 = some (.iconst 4, 1, [], 0) := by decide +kernel
theorem f250_808 : zF 250 808 = some (.iadd, 1, [], 0) := by decide +kernel
theorem f250_809 : zF 250 809 = some (.iaload, 1, [], 0) := by decide +kernel
theorem f250_810 : zF 250 810 = some (.invokevirtual 114, 3, [0, 238, 10, 5, 10, 0, 0], 0) := by decide +kernel
theorem f250_813 : zF 250 813 = some (.if_icmp .eq 260, 3, [], 0) := by decide +kernel
theorem f250_816 : zF 250 816 = some (.iconst 0, 1, [], 0) := by decide +kernel
theorem f250_817 : zF 250 817 = some (.ireturn, 1, [1], 0) := by decide +kernel
theorem f250_818 : zF 250 818 = some (.aload_n 1, 1, [], 0) := by decide +kernel
theorem f250_819 : zF 250 819 = some (.aload_n 0, 1, [], 0) := by decide +kernel
theorem f250_820 : zF 250 820 = some (.iload_n 3, 1, [], 0) := by decide +kernel
theorem f250_821 : zF 250 821 = some (.iconst 1, 1, [], 0) := by decide +kernel
theorem f250_822 : zF 250 822 = some (.iadd, 1, [], 0) := by decide +kernel
theorem f250_823 : zF 250 823 = some (.iaload, 1, [], 0) := by decide +kernel
theorem f250_824 : zF 250 824 = some (.aload_n 0, 1, [], 0) := by decide +kernel
theorem f250_825 : zF 250 825 = some (.iload_n 3, 1, [], 0) := by decide +kernel
theorem f250_826 : zF 250 826 = some (.iconst 2, 1, [], 0) := by decide +kernel
theorem f250_827 : zF 250 827 = some (.iadd, 1, [], 0) := by decide +kernel
theorem f250_828 : zF 250 828 = some (.iaload, 1, [], 0) := by decide +kernel
theorem f250_829 : zF 250 829 = some (.aload_n 0, 1, [], 0) := by decide +kernel
theorem f250_830 : zF 250 830 = some (.iload_n 3, 1, [], 0) := by decide +kernel
theorem f250_831 : zF 250 831 = some (.iconst 3, 1, [], 0) := by decide +kernel
theorem f250_832 : zF 250 832 = some (.iadd, 1, [], 0) := by decide +kernel
theorem f250_833 : zF 250 833 = some (.iaload, 1, [], 0) := by decide +kernel
theorem f250_834 : zF 250 834 = some (.invokevirtual 115, 3, [0, 136, 9, 4, 6, 0, 0], 0) := by decide +kernel
theorem f250_837 : zF 250 837 = some (.aload_n 2, 1, [], 0) := by decide +kernel
theorem f250_838 : zF 250 838 = some (.aload_n 0, 1, [], 0) := by decide +kernel
theorem f250_839 : zF 250 839 = some (.iload_n 3, 1, [], 0) := by decide +kernel
theorem f250_840 : zF 250 840 = some (.iconst 1, 1, [], 0) := by decide +kernel
theorem f250_841 : zF 250 841 = some (.iadd, 1, [], 0) := by decide +kernel
theorem f250_842 : zF 250 842 = some (.iaload, 1, [], 0) := by decide +kernel
theorem f250_843 : zF 250 843 = some (.aload_n 0, 1, [], 0) := by decide +kernel
theorem f250_844 : zF 250 844 = some (.iload_n 3, 1, [], 0) := by decide +kernel
theorem f250_845 : zF 250 845 = some (.iconst 2, 1, [], 0) := by decide +kernel
theorem f250_846 : zF 250 846 = some (.iadd, 1, [], 0) := by decide +kernel
theorem f250_847 : zF 250 847 = some (.iaload, 1, [], 0) := by decide +kernel
theorem f250_848 : zF 250 848 = some (.aload_n 0, 1, [], 0) := by decide +kernel
theorem f250_849 : zF 250 849 = some (.iload_n 3, 1, [], 0) := by decide +kernel
theorem f250_850 : zF 250 850 = some (.iconst 3, 1, [], 0) := by decide +kernel
theorem f250_851 : zF 250 851 = some (.iadd, 1, [], 0) := by decide +kernel
theorem f250_852 : zF 250 852 = some (.iaload, 1, [], 0) := by decide +kernel
theorem f250_853 : zF 250 853 = some (.invokevirtual 118, 3, [0, 239, 10, 4, 6, 0, 0], 0) := by decide +kernel
theorem f250_856 : zF 250 856 = some (.if_icmp .eq 217, 3, [], 0) := by decide +kernel
theorem f250_859 : zF 250 859 = some (.iconst 0, 1, [], 0) := by decide +kernel
theorem f250_860 : zF 250 860 = some (.ireturn, 1, [1], 0) := by decide +kernel
theorem f250_861 : zF 250 861 = some (.aload_n 1, 1, [], 0) := by decide +kernel
theorem f250_862 : zF 250 862 = some (.aload_n 0, 1, [], 0) := by decide +kernel
theorem f250_863 : zF 250 863 = some (.iload_n 3, 1, [], 0) := by decide +kernel
theorem f250_864 : zF 250 864 = some (.iconst 1, 1, [], 0) := by decide +kernel
theorem f250_865 : zF 250 865 = some (.iadd, 1, [], 0) := by decide +kernel
theorem f250_866 : zF 250 866 = some (.iaload, 1, [], 0) := by decide +kernel
theorem f250_867 : zF 250 867 = some (.aload_n 0, 1, [], 0) := by decide +kernel
theorem f250_868 : zF 250 868 = some (.iload_n 3, 1, [], 0) := by decide +kernel
theorem f250_869 : zF 250 869 = some (.iconst 2, 1, [], 0) := by decide +kernel
theorem f250_870 : zF 250 870 = some (.iadd, 1, [], 0) := by decide +kernel
theorem f250_871 : zF 250 871 = some (.iaload, 1, [], 0) := by decide +kernel
theorem f250_872 : zF 250 872 = some (.aload_n 0, 1, [], 0) := by decide +kernel
theorem f250_873 : zF 250 873 = some (.iload_n 3, 1, [], 0) := by decide +kernel
theorem f250_874 : zF 250 874 = some (.iconst 3, 1, [], 0) := by decide +kernel
theorem f250_875 : zF 250 875 = some (.iadd, 1, [], 0) := by decide +kernel
theorem f250_876 : zF 250 876 = some (.iaload, 1, [], 0) := by decide +kernel
theorem f250_877 : zF 250 877 = some (.invokevirtual 119, 3, [0, 137, 9, 4, 4, 0, 0], 0) := by decide +kernel
theorem f250_880 : zF 250 880 = some (.aload_n 2, 1, [], 0) := by decide +kernel
theorem f250_881 : zF 250 881 = some (.aload_n 0, 1, [], 0) := by decide +kernel
theorem f250_882 : zF 250 882 = some (.iload_n 3, 1, [], 0) := by decide +kernel
theorem f250_883 : zF 250 883 = some (.iconst 1, 1, [], 0) := by decide +kernel
theorem f250_884 : zF 250 884 = some (.iadd, 1, [], 0) := by decide +kernel
theorem f250_885 : zF 250 885 = some (.iaload, 1, [], 0) := by decide +kernel
theorem f250_886 : zF 250 886 = some (.aload_n 0, 1, [], 0) := by decide +kernel
theorem f250_887 : zF 250 887 = some (.iload_n 3, 1, [], 0) := by decide +kernel
theorem f250_888 : zF 250 888 = some (.iconst 2, 1, [], 0) := by decide +kernel
theorem f250_889 : zF 250 889 = some (.iadd, 1, [], 0) := by decide +kernel
theorem f250_890 : zF 250 890 = some (.iaload, 1, [], 0) := by decide +kernel
theorem f250_891 : zF 250 891 = some (.aload_n 0, 1, [], 0) := by decide +kernel
theorem f250_892 : zF 250 892 = some (.iload_n 3, 1, [], 0) := by decide +kernel
theorem f250_893 : zF 250 893 = some (.iconst 3, 1, [], 0) := by decide +kernel
theorem f250_894 : zF 250 894 = some (.iadd, 1, [], 0) := by decide +kernel
theorem f250_895 : zF 250 895 = some (.iaload, 1, [], 0) := by decide +kernel
theorem f250_896 : zF 250 896 = some (.invokevirtual 122, 3, [0, 240, 10, 4, 5, 0, 0], 0) := by decide +kernel
theorem f250_899 : zF 250 899 = some (.if_icmp .eq 174, 3, [], 0) := by decide +kernel
theorem f250_902 : zF 250 902 = some (.iconst 0, 1, [], 0) := by decide +kernel
theorem f250_903 : zF 250 903 = some (.ireturn, 1, [1], 0) := by decide +kernel
theorem f250_904 : zF 250 904 = some (.aload_n 1, 1, [], 0) := by decide +kernel
theorem f250_905 : zF 250 905 = some (.aload_n 0, 1, [], 0) := by decide +kernel
theorem f250_906 : zF 250 906 = some (.iload_n 3, 1, [], 0) := by decide +kernel
theorem f250_907 : zF 250 907 = some (.iconst 1, 1, [], 0) := by decide +kernel
theorem f250_908 : zF 250 908 = some (.iadd, 1, [], 0) := by decide +kernel
theorem f250_909 : zF 250 909 = some (.iaload, 1, [], 0) := by decide +kernel
theorem f250_910 : zF 250 910 = some (.invokevirtual 123, 3, [0, 138, 9, 2, 2, 0, 0], 0) := by decide +kernel
theorem f250_913 : zF 250 913 = some (.aload_n 2, 1, [], 0) := by decide +kernel
theorem f250_914 : zF 250 914 = some (.aload_n 0, 1, [], 0) := by decide +kernel
theorem f250_915 : zF 250 915 = some (.iload_n 3, 1, [], 0) := by decide +kernel
theorem f250_916 : zF 250 916 = some (.iconst 1, 1, [], 0) := by decide +kernel
theorem f250_917 : zF 250 917 = some (.iadd, 1, [], 0) := by decide +kernel
theorem f250_918 : zF 250 918 = some (.iaload, 1, [], 0) := by decide +kernel
theorem f250_919 : zF 250 919 = some (.invokevirtual 126, 3, [0, 241, 10, 2, 2, 0, 0], 0) := by decide +kernel
theorem f250_922 : zF 250 922 = some (.if_icmp .eq 151, 3, [], 0) := by decide +kernel
theorem f250_925 : zF 250 925 = some (.iconst 0, 1, [], 0) := by decide +kernel
theorem f250_926 : zF 250 926 = some (.ireturn, 1, [1], 0) := by decide +kernel
theorem f250_927 : zF 250 927 = some (.aload_n 1, 1, [], 0) := by decide +kernel
theorem f250_928 : zF 250 928 = some (.aload_n 0, 1, [], 0) := by decide +kernel
theorem f250_929 : zF 250 929 = some (.iload_n 3, 1, [], 0) := by decide +kernel
theorem f250_930 : zF 250 930 = some (.iconst 1, 1, [], 0) := by decide +kernel
theorem f250_931 : zF 250 931 = some (.iadd, 1, [], 0) := by decide +kernel
theorem f250_932 : zF 250 932 = some (.iaload, 1, [], 0) := by decide +kernel
theorem f250_933 : zF 250 933 = some (.aload_n 0, 1, [], 0) := by decide +kernel
theorem f250_934 : zF 250 934 = some (.iload_n 3, 1, [], 0) := by decide +kernel
theorem f250_935 : zF 250 935 = some (.iconst 2, 1, [], 0) := by decide +kernel
theorem f250_936 : zF 250 936 = some (.iadd, 1, [], 0) := by decide +kernel
theorem f250_937 : zF 250 937 = some (.iaload, 1, [], 0) := by decide +kernel
theorem f250_938 : zF 250 938 = some (.aload_n 0, 1, [], 0) := by decide +kernel
theorem f250_939 : zF 250 939 = some (.iload_n 3, 1, [], 0) := by decide +kernel
theorem f250_940 : zF 250 940 = some (.iconst 3, 1, [], 0) := by decide +kernel
theorem f250_941 : zF 250 941 = some (.iadd, 1, [], 0) := by decide +kernel
theorem f250_942 : zF 250 942 = some (.iaload, 1, [], 0) := by decide +kernel
theorem f250_943 : zF 250 943 = some (.aload_n 0, 1, [], 0) := by decide +kernel
theorem f250_944 : zF 250 944 = some (.iload_n 3, 1, [], 0) := by decide +kernel
theorem f250_945 : zF 250 945 = some (.iconst 4, 1, [], 0) := by decide +kernel
theorem f250_946 : zF 250 946 = some (.iadd, 1, [], 0) := by decide +kernel
theorem f250_947 : zF 250 947 = some (.iaload, 1, [], 0) := by decide +kernel
theorem f250_948 : zF 250 948 = some (.i2l, 1, [], 0) := by decide +kernel
theorem f250_949 : zF 250 949 = some (.bipush 32, 2, [], 0) := by decide +kernel
theorem f250_951 : zF 250 951 = some (.lshl, 1, [], 0) := by decide +kernel
theorem f250_952 : zF 250 952 = some (.aload_n 0, 1, [], 0) := by decide +kernel
theorem f250_953 : zF 250 953 = some (.iload_n 3, 1, [], 0) := by decide +kernel
theorem f250_954 : zF 250 954 = some (.iconst 5, 1, [], 0) := by decide +kernel
theorem f250_955 : zF 250 955 = some (.iadd, 1, [], 0) := by decide +kernel
theorem f250_956 : zF 250 956 = some (.iaload, 1, [], 0) := by decide +kernel
theorem f250_957 : zF 250 957 = some (.i2l, 1, [], 0) := by decide +kernel
theorem f250_958 : zF 250 958 = some (.ldc2_w 127, 3, [], 4294967295) := by decide +kernel
theorem f250_961 : zF 250 961 = some (.land, 1, [], 0) := by decide +kernel
theorem f250_962 : zF 250 962 = some (.lor, 1, [], 0) := by decide +kernel
theorem f250_963 : zF 250 963 = some (.invokevirtual 129, 3, [0, 139, 9, 5, 7, 0, 0], 0) := by decide +kernel
theorem f250_966 : zF 250 966 = some (.aload_n 2, 1, [], 0) := by decide +kernel
theorem f250_967 : zF 250 967 = some (.aload_n 0, 1, [], 0) := by decide +kernel
theorem f250_968 : zF 250 968 = some (.iload_n 3, 1, [], 0) := by decide +kernel
theorem f250_969 : zF 250 969 = some (.iconst 1, 1, [], 0) := by decide +kernel
theorem f250_970 : zF 250 970 = some (.iadd, 1, [], 0) := by decide +kernel
theorem f250_971 : zF 250 971 = some (.iaload, 1, [], 0) := by decide +kernel
theorem f250_972 : zF 250 972 = some (.aload_n 0, 1, [], 0) := by decide +kernel
theorem f250_973 : zF 250 973 = some (.iload_n 3, 1, [], 0) := by decide +kernel
theorem f250_974 : zF 250 974 = some (.iconst 2, 1, [], 0) := by decide +kernel
theorem f250_975 : zF 250 975 = some (.iadd, 1, [], 0) := by decide +kernel
theorem f250_976 : zF 250 976 = some (.iaload, 1, [], 0) := by decide +kernel
theorem f250_977 : zF 250 977 = some (.aload_n 0, 1, [], 0) := by decide +kernel
theorem f250_978 : zF 250 978 = some (.iload_n 3, 1, [], 0) := by decide +kernel
theorem f250_979 : zF 250 979 = some (.iconst 3, 1, [], 0) := by decide +kernel
theorem f250_980 : zF 250 980 = some (.iadd, 1, [], 0) := by decide +kernel
theorem f250_981 : zF 250 981 = some (.iaload, 1, [], 0) := by decide +kernel
theorem f250_982 : zF 250 982 = some (.aload_n 0, 1, [], 0) := by decide +kernel
theorem f250_983 : zF 250 983 = some (.iload_n 3, 1, [], 0) := by decide +kernel
theorem f250_984 : zF 250 984 = some (.iconst 4, 1, [], 0) := by decide +kernel
theorem f250_985 : zF 250 985 = some (.iadd, 1, [], 0) := by decide +kernel
theorem f250_986 : zF 250 986 = some (.iaload, 1, [], 0) := by decide +kernel
theorem f250_987 : zF 250 987 = some (.i2l, 1, [], 0) := by decide +kernel
theorem f250_988 : zF 250 988 = some (.bipush 32, 2, [], 0) := by decide +kernel
theorem f250_990 : zF 250 990 = some (.lshl, 1, [], 0) := by decide +kernel
theorem f250_991 : zF 250 991 = some (.aload_n 0, 1, [], 0) := by decide +kernel
theorem f250_992 : zF 250 992 = some (.iload_n 3, 1, [], 0) := by decide +kernel
theorem f250_993 : zF 250 993 = some (.iconst 5, 1, [], 0) := by decide +kernel
theorem f250_994 : zF 250 994 = some (.iadd, 1, [], 0) := by decide +kernel
theorem f250_995 : zF 250 995 = some (.iaload, 1, [], 0) := by decide +kernel
theorem f250_996 : zF 250 996 = some (.i2l, 1, [], 0) := by decide +kernel
theorem f250_997 : zF 250 997 = some (.ldc2_w 127, 3, [], 4294967295) := by decide +kernel
theorem f250_1000 : zF 250 1000 = some (.land, 1, [], 0) := by decide +kernel
theorem f250_1001 : zF 250 1001 = some (.lor, 1, [], 0) := by decide +kernel
theorem f250_1002 : zF 250 1002 = some (.invokevirtual 133, 3, [0, 242, 10, 5, 7, 0, 0], 0) := by decide +kernel
theorem f250_1005 : zF 250 1005 = some (.if_icmp .eq 68, 3, [], 0) := by decide +kernel
theorem f250_1008 : zF 250 1008 = some (.iconst 0, 1, [], 0) := by decide +kernel
theorem f250_1009 : zF 250 1009 = some (.ireturn, 1, [1], 0) := by decide +kernel
theorem f250_1010 : zF 250 1010 = some (.aload_n 1, 1, [], 0) := by decide +kernel
theorem f250_1011 : zF 250 1011 = some (.aload_n 0, 1, [], 0) := by decide +kernel
theorem f250_1012 : zF 250 1012 = some (.iload_n 3, 1, [], 0) := by decide +kernel
theorem f250_1013 : zF 250 1013 = some (.iconst 1, 1, [], 0) := by decide +kernel
theorem f250_1014 : zF 250 1014 = some (.iadd, 1, [], 0) := by decide +kernel
theorem f250_1015 : zF 250 1015 = some (.iaload, 1, [], 0) := by decide +kernel
theorem f250_1016 : zF 250 1016 = some (.aload_n 0, 1, [], 0) := by decide +kernel
theorem f250_1017 : zF 250 1017 = some (.iload_n 3, 1, [], 0) := by decide +kernel
theorem f250_1018 : zF 250 1018 = some (.iconst 2, 1, [], 0) := by decide +kernel
theorem f250_1019 : zF 250 1019 = some (.iadd, 1, [], 0) := by decide +kernel
theorem f250_1020 : zF 250 1020 = some (.iaload, 1, [], 0) := by decide +kernel
theorem f250_1021 : zF 250 1021 = some (.aload_n 0, 1, [], 0) := by decide +kernel
theorem f250_1022 : zF 250 1022 = some (.iload_n 3, 1, [], 0) := by decide +kernel
theorem f250_1023 : zF 250 1023 = some (.iconst 3, 1, [], 0) := by decide +kernel
theorem f250_1024 : zF 250 1024 = some (.iadd, 1, [], 0) := by decide +kernel
theorem f250_1025 : zF 250 1025 = some (.iaload, 1, [], 0) := by decide +kernel
theorem f250_1026 : zF 250 1026 = some (.aload_n 0, 1, [], 0) := by decide +kernel
theorem f250_1027 : zF 250 1027 = some (.iload_n 3, 1, [], 0) := by decide +kernel
theorem f250_1028 : zF 250 1028 = some (.iconst 4, 1, [], 0) := by decide +kernel
theorem f250_1029 : zF 250 1029 = some (.iadd, 1, [], 0) := by decide +kernel
theorem f250_1030 : zF 250 1030 = some (.iaload, 1, [], 0) := by decide +kernel
theorem f250_1031 : zF 250 1031 = some (.aload_n 0, 1, [], 0) := by decide +kernel
theorem f250_1032 : zF 250 1032 = some (.iload_n 3, 1, [], 0) := by decide +kernel
theorem f250_1033 : zF 250 1033 = some (.iconst 5, 1, [], 0) := by decide +kernel
theorem f250_1034 : zF 250 1034 = some (.iadd, 1, [], 0) := by decide +kernel
theorem f250_1035 : zF 250 1035 = some (.iaload, 1, [], 0) := by decide +kernel
theorem f250_1036 : zF 250 1036 = some (.invokevirtual 134, 3, [0, 140, 9, 6, 8, 0, 0], 0) := by decide +kernel
theorem f250_1039 : zF 250 1039 = some (.aload_n 2, 1, [], 0) := by decide +kernel
theorem f250_1040 : zF 250 1040 = some (.aload_n 0, 1, [], 0) := by decide +kernel
theorem f250_1041 : zF 250 1041 = some (.iload_n 3, 1, [], 0) := by decide +kernel
theorem f250_1042 : zF 250 1042 = some (.iconst 1, 1, [], 0) := by decide +kernel
theorem f250_1043 : zF 250 1043 = some (.iadd, 1, [], 0) := by decide +kernel
theorem f250_1044 : zF 250 1044 = some (.iaload, 1, [], 0) := by decide +kernel
theorem f250_1045 : zF 250 1045 = some (.aload_n 0, 1, [], 0) := by decide +kernel
theorem f250_1046 : zF 250 1046 = some (.iload_n 3, 1, [], 0) := by decide +kernel
theorem f250_1047 : zF 250 1047 = some (.iconst 2, 1, [], 0) := by decide +kernel
theorem f250_1048 : zF 250 1048 = some (.iadd, 1, [], 0) := by decide +kernel
theorem f250_1049 : zF 250 1049 = some (.iaload, 1, [], 0) := by decide +kernel
theorem f250_1050 : zF 250 1050 = some (.aload_n 0, 1, [], 0) := by decide +kernel
theorem f250_1051 : zF 250 1051 = some (.iload_n 3, 1, [], 0) := by decide +kernel
theorem f250_1052 : zF 250 1052 = some (.iconst 3, 1, [], 0) := by decide +kernel
theorem f250_1053 : zF 250 1053 = some (.iadd, 1, [], 0) := by decide +kernel
theorem f250_1054 : zF 250 1054 = some (.iaload, 1, [], 0) := by decide +kernel
theorem f250_1055 : zF 250 1055 = some (.aload_n 0, 1, [], 0) := by decide +kernel
theorem f250_1056 : zF 250 1056 = some (.iload_n 3, 1, [], 0) := by decide +kernel
theorem f250_1057 : zF 250 1057 = some (.iconst 4, 1, [], 0) := by decide +kernel
theorem f250_1058 : zF 250 1058 = some (.iadd, 1, [], 0) := by decide +kernel
theorem f250_1059 : zF 250 1059 = some (.iaload, 1, [], 0) := by decide +kernel
theorem f250_1060 : zF 250 1060 = some (.aload_n 0, 1, [], 0) := by decide +kernel
theorem f250_1061 : zF 250 1061 = some (.iload_n 3, 1, [], 0) := by decide +kernel
theorem f250_1062 : zF 250 1062 = some (.iconst 5, 1, [], 0) := by decide +kernel
theorem f250_1063 : zF 250 1063 = some (.iadd, 1, [], 0) := by decide +kernel
theorem f250_1064 : zF 250 1064 = some (.iaload, 1, [], 0) := by decide +kernel
theorem f250_1065 : zF 250 1065 = some (.invokevirtual 138, 3, [0, 243, 10, 6, 7, 0, 0], 0) := by decide +kernel
theorem f250_1068 : zF 250 1068 = some (.if_icmp .eq 5, 3, [], 0) := by decide +kernel
theorem f250_1071 : zF 250 1071 = some (.iconst 0, 1, [], 0) := by decide +kernel
theorem f250_1072 : zF 250 1072 = some (.ireturn, 1, [1], 0) := by decide +kernel
theorem f250_1073 : zF 250 1073 = some (.iinc 3 6, 3, [], 0) := by decide +kernel
theorem f250_1076 : zF 250 1076 = some (.goto (-1058), 3, [], 0) := by decide +kernel
theorem f250_1079 : zF 250 1079 = some (.iconst 1, 1, [], 0) := by decide +kernel
theorem f250_1080 : zF 250 1080 = some (.ireturn, 1, [1], 0) := by decide +kernel

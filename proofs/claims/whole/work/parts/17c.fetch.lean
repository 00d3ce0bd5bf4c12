/-! fetch rows -/
theorem f249_0 : zF 249 0 = some (.new 7, 3, [9, 12], 0) := rfl
theorem f249_3 : zF 249 3 = some (.dup, 1, [], 0) := rfl
theorem f249_4 : zF 249 4 = some (.invokespecial 9, 3, [2, 111, 0, 1, 4, 210, 1600], 0) := rfl
theorem f249_7 : zF 249 7 = some (.astore_n 1, 1, [], 0) := rfl
theorem f249_8 : zF 249 8 = some (.new 10, 3, [10, 47], 0) := rfl
theorem f249_11 : zF 249 11 = some (.dup, 1, [], 0) := rfl
theorem f249_12 : zF 249 12 = some (.invokespecial 12, 3, [2, 150, 0, 1, 2, 50, 8000], 0) := rfl
theorem f249_15 : zF 249 15 = some (.astore_n 2, 1, [], 0) := rfl
theorem f249_16 : zF 249 16 = some (.iconst 0, 1, [], 0) := rfl
theorem f249_17 : zF 249 17 = some (.istore_n 3, 1, [], 0) := rfl
theorem f249_18 : zF 249 18 = some (.iload_n 3, 1, [], 0) := rfl
theorem f249_19 : zF 249 19 = some (.aload_n 0, 1, [], 0) := rfl
theorem f249_20 : zF 249 20 = some (.arraylength, 1, [], 0) := rfl
theorem f249_21 : zF 249 21 = some (.bipush 6, 2, [], 0) := rfl
theorem f249_23 : zF 249 23 = some (.isub, 1, [], 0) := rfl
theorem f249_24 : zF 249 24 = some (.if_icmp .gt 1055, 3, [], 0) := rfl
theorem f249_27 : zF 249 27 = some (.aload_n 0, 1, [], 0) := rfl
theorem f249_28 : zF 249 28 = some (.iload_n 3, 1, [], 0) := rfl
theorem f249_29 : zF 249 29 = some (.iaload, 1, [], 0) := rfl
theorem f249_30 : zF 249 30 = some (.bipush 31, 2, [], 0) := rfl
theorem f249_32 : zF 249 32 = some (.iand, 1, [], 0) := rfl
theorem f249_33 : zF 249 33 = some (.tableswitch 1040 0 28 #[131, 154, 177, 200, 223, 256, 299, 322, 345, 368, 381, 414, 447, 470, 503, 526, 570, 614, 647, 670, 683, 706, 719, 732, 785, 828, 871, 894, 977], 131, [], 0) := rfl
theorem f249_164 : zF 249 164 = some (.aload_n 1, 1, [], 0) := rfl
theorem f249_165 : zF 249 165 = some (.aload_n 0, 1, [], 0) := rfl
theorem f249_166 : zF 249 166 = some (.iload_n 3, 1, [], 0) := rfl
theorem f249_167 : zF 249 167 = some (.iconst 1, 1, [], 0) := rfl
theorem f249_168 : zF 249 168 = some (.iadd, 1, [], 0) := rfl
theorem f249_169 : zF 249 169 = some (.iaload, 1, [], 0) := rfl
theorem f249_170 : zF 249 170 = some (.invokevirtual 13, 3, [0, 112, 9, 2, 2, 0, 0], 0) := rfl
theorem f249_173 : zF 249 173 = some (.aload_n 2, 1, [], 0) := rfl
theorem f249_174 : zF 249 174 = some (.aload_n 0, 1, [], 0) := rfl
theorem f249_175 : zF 249 175 = some (.iload_n 3, 1, [], 0) := rfl
theorem f249_176 : zF 249 176 = some (.iconst 1, 1, [], 0) := rfl
theorem f249_177 : zF 249 177 = some (.iadd, 1, [], 0) := rfl
theorem f249_178 : zF 249 178 = some (.iaload, 1, [], 0) := rfl
theorem f249_179 : zF 249 179 = some (.invokevirtual 17, 3, [0, 179, 10, 2, 2, 0, 0], 0) := rfl
theorem f249_182 : zF 249 182 = some (.if_icmp .eq 891, 3, [], 0) := rfl
theorem f249_185 : zF 249 185 = some (.iconst 0, 1, [], 0) := rfl
theorem f249_186 : zF 249 186 = some (.ireturn, 1, [1], 0) := rfl
theorem f249_187 : zF 249 187 = some (.aload_n 1, 1, [], 0) := rfl
theorem f249_188 : zF 249 188 = some (.aload_n 0, 1, [], 0) := rfl
theorem f249_189 : zF 249 189 = some (.iload_n 3, 1, [], 0) := rfl
theorem f249_190 : zF 249 190 = some (.iconst 1, 1, [], 0) := rfl
theorem f249_191 : zF 249 191 = some (.iadd, 1, [], 0) := rfl
theorem f249_192 : zF 249 192 = some (.iaload, 1, [], 0) := rfl
theorem f249_193 : zF 249 193 = some (.invokevirtual 18, 3, [0, 113, 9, 2, 3, 8, 255], 0) := rfl
theorem f249_196 : zF 249 196 = some (.aload_n 2, 1, [], 0) := rfl
theorem f249_197 : zF 249 197 = some (.aload_n 0, 1, [], 0) := rfl
theorem f249_198 : zF 249 198 = some (.iload_n 3, 1, [], 0) := rfl
theorem f249_199 : zF 249 199 = some (.iconst 1, 1, [], 0) := rfl
theorem f249_200 : zF 249 200 = some (.iadd, 1, [], 0) := rfl
theorem f249_201 : zF 249 201 = some (.iaload, 1, [], 0) := rfl
theorem f249_202 : zF 249 202 = some (.invokevirtual 21, 3, [0, 188, 10, 2, 5, 0, 0], 0) := rfl
theorem f249_205 : zF 249 205 = some (.if_icmp .eq 868, 3, [], 0) := rfl
theorem f249_208 : zF 249 208 = some (.iconst 0, 1, [], 0) := rfl
theorem f249_209 : zF 249 209 = some (.ireturn, 1, [1], 0) := rfl
theorem f249_210 : zF 249 210 = some (.aload_n 1, 1, [], 0) := rfl
theorem f249_211 : zF 249 211 = some (.aload_n 0, 1, [], 0) := rfl
theorem f249_212 : zF 249 212 = some (.iload_n 3, 1, [], 0) := rfl
theorem f249_213 : zF 249 213 = some (.iconst 1, 1, [], 0) := rfl
theorem f249_214 : zF 249 214 = some (.iadd, 1, [], 0) := rfl
theorem f249_215 : zF 249 215 = some (.iaload, 1, [], 0) := rfl
theorem f249_216 : zF 249 216 = some (.invokevirtual 22, 3, [0, 114, 9, 2, 4, 20, 536], 0) := rfl
theorem f249_219 : zF 249 219 = some (.aload_n 2, 1, [], 0) := rfl
theorem f249_220 : zF 249 220 = some (.aload_n 0, 1, [], 0) := rfl
theorem f249_221 : zF 249 221 = some (.iload_n 3, 1, [], 0) := rfl
theorem f249_222 : zF 249 222 = some (.iconst 1, 1, [], 0) := rfl
theorem f249_223 : zF 249 223 = some (.iadd, 1, [], 0) := rfl
theorem f249_224 : zF 249 224 = some (.iaload, 1, [], 0) := rfl
theorem f249_225 : zF 249 225 = some (.invokevirtual 25, 3, [0, 189, 10, 2, 3, 0, 0], 0) := rfl
theorem f249_228 : zF 249 228 = some (.if_icmp .eq 845, 3, [], 0) := by decide +kernel
theorem f249_231 : zF 249 231 = some (.iconst 0, 1, [], 0) := by decide +kernel
theorem f249_232 : zF 249 232 = some (.ireturn, 1, [1], 0) := by decide +kernel
theorem f249_233 : zF 249 233 = some (.aload_n 1, 1, [], 0) := by decide +kernel
theorem f249_234 : zF 249 234 = some (.aload_n 0, 1, [], 0) := by decide +kernel
theorem f249_235 : zF 249 235 = some (.iload_n 3, 1, [], 0) := by decide +kernel
theorem f249_236 : zF 249 236 = some (.iconst 1, 1, [], 0) := by decide +kernel
theorem f249_237 : zF 249 237 = some (.iadd, 1, [], 0) := by decide +kernel
theorem f249_238 : zF 249 238 = some (.iaload, 1, [], 0) := by decide +kernel
theorem f249_239 : zF 249 239 = some (.invokevirtual 26, 3, [0, 115, 9, 2, 2, 0, 0], 0) := by decide +kernel
theorem f249_242 : zF 249 242 = some (.aload_n 2, 1, [], 0) := by decide +kernel
theorem f249_243 : zF 249 243 = some (.aload_n 0, 1, [], 0) := by decide +kernel
theorem f249_244 : zF 249 244 = some (.iload_n 3, 1, [], 0) := by decide +kernel
theorem f249_245 : zF 249 245 = some (.iconst 1, 1, [], 0) := by decide +kernel
theorem f249_246 : zF 249 246 = some (.iadd, 1, [], 0) := by decide +kernel
theorem f249_247 : zF 249 247 = some (.iaload, 1, [], 0) := by decide +kernel
theorem f249_248 : zF 249 248 = some (.invokevirtual 29, 3, [0, 191, 10, 2, 2, 0, 0], 0) := by decide +kernel
theorem f249_251 : zF 249 251 = some (.if_icmp .eq 822, 3, [], 0) := by decide +kernel
theorem f249_254 : zF 249 254 = some (.iconst 0, 1, [], 0) := by decide +kernel
theorem f249_255 : zF 249 255 = some (.ireturn, 1, [1], 0) := by decide +kernel
theorem f249_256 : zF 249 256 = some (.aload_n 1, 1, [], 0) := by decide +kernel
theorem f249_257 : zF 249 257 = some (.aload_n 0, 1, [], 0) := by decide +kernel
theorem f249_258 : zF 249 258 = some (.iload_n 3, 1, [], 0) := by decide +kernel
theorem f249_259 : zF 249 259 = some (.iconst 1, 1, [], 0) := by decide +kernel
theorem f249_260 : zF 249 260 = some (.iadd, 1, [], 0) := by decide +kernel
theorem f249_261 : zF 249 261 = some (.iaload, 1, [], 0) := by decide +kernel
theorem f249_262 : zF 249 262 = some (.aload_n 0, 1, [], 0) := by decide +kernel
theorem f249_263 : zF 249 263 = some (.iload_n 3, 1, [], 0) := by decide +kernel
theorem f249_264 : zF 249 264 = some (.iconst 2, 1, [], 0) := by decide +kernel
theorem f249_265 : zF 249 265 = some (.iadd, 1, [], 0) := by decide +kernel
theorem f249_266 : zF 249 266 = some (.iaload, 1, [], 0) := by decide +kernel
theorem f249_267 : zF 249 267 = some (.invokevirtual 30, 3, [0, 116, 9, 3, 3, 0, 0], 0) := by decide +kernel
theorem f249_270 : zF 249 270 = some (.aload_n 2, 1, [], 0) := by decide +kernel
theorem f249_271 : zF 249 271 = some (.aload_n 0, 1, [], 0) := by decide +kernel
theorem f249_272 : zF 249 272 = some (.iload_n 3, 1, [], 0) := by decide +kernel
theorem f249_273 : zF 249 273 = some (.iconst 1, 1, [], 0) := by decide +kernel
theorem f249_274 : zF 249 274 = some (.iadd, 1, [], 0) := by decide +kernel
theorem f249_275 : zF 249 275 = some (.iaload, 1, [], 0) := by decide +kernel
theorem f249_276 : zF 249 276 = some (.aload_n 0, 1, [], 0) := by decide +kernel
theorem f249_277 : zF 249 277 = some (.iload_n 3, 1, [], 0) := by decide +kernel
theorem f249_278 : zF 249 278 = some (.iconst 2, 1, [], 0) := by decide +kernel
theorem f249_279 : zF 249 279 = some (.iadd, 1, [], 0) := by decide +kernel
theorem f249_280 : zF 249 280 = some (.iaload, 1, [], 0) := by decide +kernel
theorem f249_281 : zF 249 281 = some (.invokevirtual 34, 3, [0, 172, 10, 3, 3, 0, 0], 0) := by decide +kernel
theorem f249_284 : zF 249 284 = some (.if_icmp .eq 789, 3, [], 0) := by decide +kernel
theorem f249_287 : zF 249 287 = some (.iconst 0, 1, [], 0) := by decide +kernel
theorem f249_288 : zF 249 288 = some (.ireturn, 1, [1], 0) := by decide +kernel
theorem f249_289 : zF 249 289 = some (.aload_n 1, 1, [], 0) := by decide +kernel
theorem f249_290 : zF 249 290 = some (.aload_n 0, 1, [], 0) := by decide +kernel
theorem f249_291 : zF 249 291 = some (.iload_n 3, 1, [], 0) := by decide +kernel
theorem f249_292 : zF 249 292 = some (.iconst 1, 1, [], 0) := by decide +kernel
theorem f249_293 : zF 249 293 = some (.iadd, 1, [], 0) := by decide +kernel
theorem f249_294 : zF 249 294 = some (.iaload, 1, [], 0) := by decide +kernel
theorem f249_295 : zF 249 295 = some (.aload_n 0, 1, [], 0) := by decide +kernel
theorem f249_296 : zF 249 296 = some (.iload_n 3, 1, [], 0) := by decide +kernel
theorem f249_297 : zF 249 297 = some (.iconst 2, 1, [], 0) := by decide +kernel
theorem f249_298 : zF 249 298 = some (.iadd, 1, [], 0) := by decide +kernel
theorem f249_299 : zF 249 299 = some (.iaload, 1, [], 0) := by decide +kernel
theorem f249_300 : zF 249 300 = some (.aload_n 0, 1, [], 0) := by decide +kernel
theorem f249_301 : zF 249 301 = some (.iload_n 3, 1, [], 0) := by decide +kernel
theorem f249_302 : zF 249 302 = some (.iconst 3, 1, [], 0) := by decide +kernel
theorem f249_303 : zF 249 303 = some (.iadd, 1, [], 0) := by decide +kernel
theorem f249_304 : zF 249 304 = some (.iaload, 1, [], 0) := by decide +kernel
theorem f249_305 : zF 249 305 = some (.invokevirtual 35, 3, [0, 117, 9, 4, 4, 0, 0], 0) := by decide +kernel
theorem f249_308 : zF 249 308 = some (.aload_n 2, 1, [], 0) := by decide +kernel
theorem f249_309 : zF 249 309 = some (.aload_n 0, 1, [], 0) := by decide +kernel
theorem f249_310 : zF 249 310 = some (.iload_n 3, 1, [], 0) := by decide +kernel
theorem f249_311 : zF 249 311 = some (.iconst 1, 1, [], 0) := by decide +kernel
theorem f249_312 : zF 249 312 = some (.iadd, 1, [], 0) := by decide +kernel
theorem f249_313 : zF 249 313 = some (.iaload, 1, [], 0) := by decide +kernel
theorem f249_314 : zF 249 314 = some (.aload_n 0, 1, [], 0) := by decide +kernel
theorem f249_315 : zF 249 315 = some (.iload_n 3, 1, [], 0) := by decide +kernel
theorem f249_316 : zF 249 316 = some (.iconst 2, 1, [], 0) := by decide +kernel
theorem f249_317 : zF 249 317 = some (.iadd, 1, [], 0) := by decide +kernel
theorem f249_318 : zF 249 318 = some (.iaload, 1, [], 0) := by decide +kernel
theorem f249_319 : zF 249 319 = some (.aload_n 0, 1, [], 0) := by decide +kernel
theorem f249_320 : zF 249 320 = some (.iload_n 3, 1, [], 0) := by decide +kernel
theorem f249_321 : zF 249 321 = some (.iconst 3, 1, [], 0) := by decide +kernel
theorem f249_322 : zF 249 322 = some (.iadd, 1, [], 0) := by decide +kernel
theorem f249_323 : zF 249 323 = some (.iaload, 1, [], 0) := by decide +kernel
theorem f249_324 : zF 249 324 = some (.invokevirtual 39, 3, [0, 173, 10, 4, 4, 0, 0], 0) := by decide +kernel
theorem f249_327 : zF 249 327 = some (.if_icmp .eq 746, 3, [], 0) := by decide +kernel
theorem f249_330 : zF 249 330 = some (.iconst 0, 1, [], 0) := by decide +kernel
theorem f249_331 : zF 249 331 = some (.ireturn, 1, [1], 0) := by decide +kernel
theorem f249_332 : zF 249 332 = some (.aload_n 1, 1, [], 0) := by decide +kernel
theorem f249_333 : zF 249 333 = some (.aload_n 0, 1, [], 0) := by decide +kernel
theorem f249_334 : zF 249 334 = some (.iload_n 3, 1, [], 0) := by decide +kernel
theorem f249_335 : zF 249 335 = some (.iconst 1, 1, [], 0) := by decide +kernel
theorem f249_336 : zF 249 336 = some (.iadd, 1, [], 0) := by decide +kernel
theorem f249_337 : zF 249 337 = some (.iaload, 1, [], 0) := by decide +kernel
theorem f249_338 : zF 249 338 = some (.invokevirtual 40, 3, [0, 118, 9, 2, 3, 0, 0], 0) := by decide +kernel
theorem f249_341 : zF 249 341 = some (.aload_n 2, 1, [], 0) := by decide +kernel
theorem f249_342 : zF 249 342 = some (.aload_n 0, 1, [], 0) := by decide +kernel
theorem f249_343 : zF 249 343 = some (.iload_n 3, 1, [], 0) := by decide +kernel
theorem f249_344 : zF 249 344 = some (.iconst 1, 1, [], 0) := by decide +kernel
theorem f249_345 : zF 249 345 = some (.iadd, 1, [], 0) := by decide +kernel
theorem f249_346 : zF 249 346 = some (.iaload, 1, [], 0) := by decide +kernel
theorem f249_347 : zF 249 347 = some (.invokevirtual 43, 3, [0, 212, 10, 2, 3, 0, 0], 0) := by decide +kernel
theorem f249_350 : zF 249 350 = some (.if_icmp .eq 723, 3, [], 0) := by decide +kernel
theorem f249_353 : zF 249 353 = some (.iconst 0, 1, [], 0) := by decide +kernel
theorem f249_354 : zF 249 354 = some (.ireturn, 1, [1], 0) := by decide +kernel
theorem f249_355 : zF 249 355 = some (.aload_n 1, 1, [], 0) := by decide +kernel
theorem f249_356 : zF 249 356 = some (.aload_n 0, 1, [], 0) := by decide +kernel
theorem f249_357 : zF 249 357 = some (.iload_n 3, 1, [], 0) := by decide +kernel
theorem f249_358 : zF 249 358 = some (.iconst 1, 1, [], 0) := by decide +kernel
theorem f249_359 : zF 249 359 = some (.iadd, 1, [], 0) := by decide +kernel
theorem f249_360 : zF 249 360 = some (.iaload, 1, [], 0) := by decide +kernel
theorem f249_361 : zF 249 361 = some (.invokevirtual 44, 3, [0, 119, 9, 2, 2, 0, 0], 0) := by decide +kernel
theorem f249_364 : zF 249 364 = some (.aload_n 2, 1, [], 0) := by decide +kernel
theorem f249_365 : zF 249 365 = some (.aload_n 0, 1, [], 0) := by decide +kernel
theorem f249_366 : zF 249 366 = some (.iload_n 3, 1, [], 0) := by decide +kernel
theorem f249_367 : zF 249 367 = some (.iconst 1, 1, [], 0) := by decide +kernel
theorem f249_368 : zF 249 368 = some (.iadd, 1, [], 0) := by decide +kernel
theorem f249_369 : zF 249 369 = some (.iaload, 1, [], 0) := by decide +kernel
theorem f249_370 : zF 249 370 = some (.invokevirtual 47, 3, [0, 204, 10, 2, 2, 0, 0], 0) := by decide +kernel
theorem f249_373 : zF 249 373 = some (.if_icmp .eq 700, 3, [], 0) := by decide +kernel
theorem f249_376 : zF 249 376 = some (.iconst 0, 1, [], 0) := by decide +kernel
theorem f249_377 : zF 249 377 = some (.ireturn, 1, [1], 0) := by decide +kernel
theorem f249_378 : zF 249 378 = some (.aload_n 1, 1, [], 0) := by decide +kernel
theorem f249_379 : zF 249 379 = some (.aload_n 0, 1, [], 0) := by decide +kernel
theorem f249_380 : zF 249 380 = some (.iload_n 3, 1, [], 0) := by decide +kernel
theorem f249_381 : zF 249 381 = some (.iconst 1, 1, [], 0) := by decide +kernel
theorem f249_382 : zF 249 382 = some (.iadd, 1, [], 0) := by decide +kernel
theorem f249_383 : zF 249 383 = some (.iaload, 1, [], 0) := by decide +kernel
theorem f249_384 : zF 249 384 = some (.invokevirtual 48, 3, [0, 120, 9, 2, 3, 0, 0], 0) := by decide +kernel
theorem f249_387 : zF 249 387 = some (.aload_n 2, 1, [], 0) := by decide +kernel
theorem f249_388 : zF 249 388 = some (.aload_n 0, 1, [], 0) := by decide +kernel
theorem f249_389 : zF 249 389 = some (.iload_n 3, 1, [], 0) := by decide +kernel
theorem f249_390 : zF 249 390 = some (.iconst 1, 1, [], 0) := by decide +kernel
theorem f249_391 : zF 249 391 = some (.iadd, 1, [], 0) := by decide +kernel
theorem f249_392 : zF 249 392 = some (.iaload, 1, [], 0) := by decide +kernel
theorem f249_393 : zF 249 393 = some (.invokevirtual 51, 3, [0, 208, 10, 2, 5, 0, 0], 0) := by decide +kernel
theorem f249_396 : zF 249 396 = some (.if_icmp .eq 677, 3, [], 0) := by decide +kernel
theorem f249_399 : zF 249 399 = some (.iconst 0, 1, [], 0) := by decide +kernel
theorem f249_400 : zF 249 400 = some (.ireturn, 1, [1], 0) := by decide +kernel
theorem f249_401 : zF 249 401 = some (.aload_n 1, 1, [], 0) := by decide +kernel
theorem f249_402 : zF 249 402 = some (.invokevirtual 52, 3, [0, 121, 9, 1, 1, 0, 0], 0) := by decide +kernel
theorem f249_405 : zF 249 405 = some (.aload_n 2, 1, [], 0) := by decide +kernel
theorem f249_406 : zF 249 406 = some (.invokevirtual 56, 3, [0, 211, 10, 1, 2, 0, 0], 0) := by decide +kernel
theorem f249_409 : zF 249 409 = some (.if_icmp .eq 664, 3, [], 0) := by decide +kernel
theorem f249_412 : zF 249 412 = some (.iconst 0, 1, [], 0) := by decide +kernel
theorem f249_413 : zF 249 413 = some (.ireturn, 1, [1], 0) := by decide +kernel
theorem f249_414 : zF 249 414 = some (.aload_n 1, 1, [], 0) := by decide +kernel
theorem f249_415 : zF 249 415 = some (.aload_n 0, 1, [], 0) := by decide +kernel
theorem f249_416 : zF 249 416 = some (.iload_n 3, 1, [], 0) := by decide +kernel
theorem f249_417 : zF 249 417 = some (.iconst 1, 1, [], 0) := by decide +kernel
theorem f249_418 : zF 249 418 = some (.iadd, 1, [], 0) := by decide +kernel
theorem f249_419 : zF 249 419 = some (.iaload, 1, [], 0) := by decide +kernel
theorem f249_420 : zF 249 420 = some (.aload_n 0, 1, [], 0) := by decide +kernel
theorem f249_421 : zF 249 421 = some (.iload_n 3, 1, [], 0) := by decide +kernel
theorem f249_422 : zF 249 422 = some (.iconst 2, 1, [], 0) := by decide +kernel
theorem f249_423 : zF 249 423 = some (.iadd, 1, [], 0) := by decide +kernel
theorem f249_424 : zF 249 424 = some (.iaload, 1, [], 0) := by decide +kernel
theorem f249_425 : zF 249 425 = some (.invokevirtual 57, 3, [0, 122, 9, 3, 3, 0, 0], 0) := by decide +kernel
theorem f249_428 : zF 249 428 = some (.aload_n 2, 1, [], 0) := by decide +kernel
theorem f249_429 : zF 249 429 = some (.aload_n 0, 1, [], 0) := by decide +kernel
theorem f249_430 : zF 249 430 = some (.iload_n 3, 1, [], 0) := by decide +kernel
theorem f249_431 : zF 249 431 = some (.iconst 1, 1, [], 0) := by decide +kernel
theorem f249_432 : zF 249 432 = some (.iadd, 1, [], 0) := by decide +kernel
theorem f249_433 : zF 249 433 = some (.iaload, 1, [], 0) := by decide +kernel
theorem f249_434 : zF 249 434 = some (.aload_n 0, 1, [], 0) := by decide +kernel
theorem f249_435 : zF 249 435 = some (.iload_n 3, 1, [], 0) := by decide +kernel
theorem f249_436 : zF 249 436 = some (.iconst 2, 1, [], 0) := by decide +kernel
theorem f249_437 : zF 249 437 = some (.iadd, 1, [], 0) := by decide +kernel
theorem f249_438 : zF 249 438 = some (.iaload, 1, [], 0) := by decide +kernel
theorem f249_439 : zF 249 439 = some (.invokevirtual 60, 3, [0, 214, 10, 3, 4, 0, 0], 0) := by decide +kernel
theorem f249_442 : zF 249 442 = some (.if_icmp .eq 631, 3, [], 0) := by decide +kernel
theorem f249_445 : zF 249 445 = some (.iconst 0, 1, [], 0) := by decide +kernel
theorem f249_446 : zF 249 446 = some (.ireturn, 1, [1], 0) := by decide +kernel
theorem f249_447 : zF 249 447 = some (.aload_n 1, 1, [], 0) := by decide +kernel
theorem f249_448 : zF 249 448 = some (.aload_n 0, 1, [], 0) := by decide +kernel
theorem f249_449 : zF 249 449 = some (.iload_n 3, 1, [], 0) := by decide +kernel
theorem f249_450 : zF 249 450 = some (.iconst 1, 1, [], 0) := by decide +kernel
theorem f249_451 : zF 249 451 = some (.iadd, 1, [], 0) := by decide +kernel
theorem f249_452 : zF 249 452 = some (.iaload, 1, [], 0) := by decide +kernel
theorem f249_453 : zF 249 453 = some (.aload_n 0, 1, [], 0) := by decide +kernel
theorem f249_454 : zF 249 454 = some (.iload_n 3, 1, [], 0) := by decide +kernel
theorem f249_455 : zF 249 455 = some (.iconst 2, 1, [], 0) := by decide +kernel
theorem f249_456 : zF 249 456 = some (.iadd, 1, [], 0) := by decide +kernel
theorem f249_457 : zF 249 457 = some (.iaload, 1, [], 0) := by decide +kernel
theorem f249_458 : zF 249 458 = some (.invokevirtual 61, 3, [0, 123, 9, 3, 3, 0, 0], 0) := by decide +kernel
theorem f249_461 : zF 249 461 = some (.aload_n 2, 1, [], 0) := by decide +kernel
theorem f249_462 : zF 249 462 = some (.aload_n 0, 1, [], 0) := by decide +kernel
theorem f249_463 : zF 249 463 = some (.iload_n 3, 1, [], 0) := by decide +kernel
theorem f249_464 : zF 249 464 = some (.iconst 1, 1, [], 0) := by decide +kernel
theorem f249_465 : zF 249 465 = some (.iadd, 1, [], 0) := by decide +kernel
theorem f249_466 : zF 249 466 = some (.iaload, 1, [], 0) := by decide +kernel
theorem f249_467 : zF 249 467 = some (.aload_n 0, 1, [], 0) := by decide +kernel
theorem f249_468 : zF 249 468 = some (.iload_n 3, 1, [], 0) := by decide +kernel
theorem f249_469 : zF 249 469 = some (.iconst 2, 1, [], 0) := by decide +kernel
theorem f249_470 : zF 249 470 = some (.iadd, 1, [], 0) := by decide +kernel
theorem f249_471 : zF 249 471 = some (.iaload, 1, [], 0) := by decide +kernel
theorem f249_472 : zF 249 472 = some (.invokevirtual 64, 3, [0, 215, 10, 3, 3, 0, 0], 0) := by decide +kernel
theorem f249_475 : zF 249 475 = some (.if_icmp .eq 598, 3, [], 0) := by decide +kernel
theorem f249_478 : zF 249 478 = some (.iconst 0, 1, [], 0) := by decide +kernel
theorem f249_479 : zF 249 479 = some (.ireturn, 1, [1], 0) := by decide +kernel
theorem f249_480 : zF 249 480 = some (.aload_n 1, 1, [], 0) := by decide +kernel
theorem f249_481 : zF 249 481 = some (.aload_n 0, 1, [], 0) := by decide +kernel
theorem f249_482 : zF 249 482 = some (.iload_n 3, 1, [], 0) := by decide +kernel
theorem f249_483 : zF 249 483 = some (.iconst 1, 1, [], 0) := by decide +kernel
theorem f249_484 : zF 249 484 = some (.iadd, 1, [], 0) := by decide +kernel
theorem f249_485 : zF 249 485 = some (.iaload, 1, [], 0) := by decide +kernel
theorem f249_486 : zF 249 486 = some (.invokevirtual 65, 3, [0, 124, 9, 2, 2, 0, 0], 0) := by decide +kernel
theorem f249_489 : zF 249 489 = some (.aload_n 2, 1, [], 0) := by decide +kernel
theorem f249_490 : zF 249 490 = some (.aload_n 0, 1, [], 0) := by decide +kernel
theorem f249_491 : zF 249 491 = some (.iload_n 3, 1, [], 0) := by decide +kernel
theorem f249_492 : zF 249 492 = some (.iconst 1, 1, [], 0) := by decide +kernel
theorem f249_493 : zF 249 493 = some (.iadd, 1, [], 0) := by decide +kernel
theorem f249_494 : zF 249 494 = some (.iaload, 1, [], 0) := by decide +kernel
theorem f249_495 : zF 249 495 = some (.invokevirtual 68, 3, [0, 218, 10, 2, 2, 0, 0], 0) := by decide +kernel
theorem f249_498 : zF 249 498 = some (.if_icmp .eq 575, 3, [], 0) := by decide +kernel
theorem f249_501 : zF 249 501 = some (.iconst 0, 1, [], 0) := by decide +kernel
theorem f249_502 : zF 249 502 = some (.ireturn, 1, [1], 0) := by decide +kernel
theorem f249_503 : zF 249 503 = some (.aload_n 1, 1, [], 0) := by decide +kernel
theorem f249_504 : zF 249 504 = some (.aload_n 0, 1, [], 0) := by decide +kernel
theorem f249_505 : zF 249 505 = some (.iload_n 3, 1, [], 0) := by decide +kernel
theorem f249_506 : zF 249 506 = some (.iconst 1, 1, [], 0) := by decide +kernel
theorem f249_507 : zF 249 507 = some (.iadd, 1, [], 0) := by decide +kernel
theorem f249_508 : zF 249 508 = some (.iaload, 1, [], 0) := by decide +kernel
theorem f249_509 : zF 249 509 = some (.aload_n 0, 1, [], 0) := by decide +kernel
theorem f249_510 : zF 249 510 = some (.iload_n 3, 1, [], 0) := by decide +kernel
theorem f249_511 : zF 249 511 = some (.iconst 2, 1, [], 0) := by decide +kernel
theorem f249_512 : zF 249 512 = some (.iadd, 1, [], 0) := by decide +kernel
theorem f249_513 : zF 249 513 = some (.iaload, 1, [], 0) := by decide +kernel
theorem f249_514 : zF 249 514 = some (.invokevirtual 69, 3, [0, 125, 9, 3, 3, 0, 0], 0) := by decide +kernel
theorem f249_517 : zF 249 517 = some (.aload_n 2, 1, [], 0) := by decide +kernel
theorem f249_518 : zF 249 518 = some (.aload_n 0, 1, [], 0) := by decide +kernel
theorem f249_519 : zF 249 519 = some (.iload_n 3, 1, [], 0) := by decide +kernel
theorem f249_520 : zF 249 520 = some (.iconst 1, 1, [], 0) := by decide +kernel
theorem f249_521 : zF 249 521 = some (.iadd, 1, [], 0) := by decide +kernel
theorem f249_522 : zF 249 522 = some (.iaload, 1, [], 0) := by decide +kernel
theorem f249_523 : zF 249 523 = some (.aload_n 0, 1, [], 0) := by decide +kernel
theorem f249_524 : zF 249 524 = some (.iload_n 3, 1, [], 0) := by decide +kernel
theorem f249_525 : zF 249 525 = some (.iconst 2, 1, [], 0) := by decide +kernel
theorem f249_526 : zF 249 526 = some (.iadd, 1, [], 0) := by decide +kernel
theorem f249_527 : zF 249 527 = some (.iaload, 1, [], 0) := by decide +kernel
theorem f249_528 : zF 249 528 = some (.invokevirtual 72, 3, [0, 220, 10, 3, 3, 0, 0], 0) := by decide +kernel
theorem f249_531 : zF 249 531 = some (.if_icmp .eq 542, 3, [], 0) := by decide +kernel
theorem f249_534 : zF 249 534 = some (.iconst 0, 1, [], 0) := by decide +kernel
theorem f249_535 : zF 249 535 = some (.ireturn, 1, [1], 0) := by decide +kernel
theorem f249_536 : zF 249 536 = some (.aload_n 1, 1, [], 0) := by decide +kernel
theorem f249_537 : zF 249 537 = some (.aload_n 0, 1, [], 0) := by decide +kernel
theorem f249_538 : zF 249 538 = some (.iload_n 3, 1, [], 0) := by decide +kernel
theorem f249_539 : zF 249 539 = some (.iconst 1, 1, [], 0) := by decide +kernel
theorem f249_540 : zF 249 540 = some (.iadd, 1, [], 0) := by decide +kernel
theorem f249_541 : zF 249 541 = some (.iaload, 1, [], 0) := by decide +kernel
theorem f249_542 : zF 249 542 = some (.invokevirtual 73, 3, [0, 126, 9, 2, 2, 0, 0], 0) := by decide +kernel
theorem f249_545 : zF 249 545 = some (.aload_n 2, 1, [], 0) := by decide +kernel
theorem f249_546 : zF 249 546 = some (.aload_n 0, 1, [], 0) := by decide +kernel
theorem f249_547 : zF 249 547 = some (.iload_n 3, 1, [], 0) := by decide +kernel
theorem f249_548 : zF 249 548 = some (.iconst 1, 1, [], 0) := by decide +kernel
theorem f249_549 : zF 249 549 = some (.iadd, 1, [], 0) := by decide +kernel
theorem f249_550 : zF 249 550 = some (.iaload, 1, [], 0) := by decide +kernel
theorem f249_551 : zF 249 551 = some (.invokevirtual 76, 3, [0, 222, 10, 2, 6, 0, 0], 0) := by decide +kernel
theorem f249_554 : zF 249 554 = some (.if_icmp .eq 519, 3, [], 0) := by decide +kernel
theorem f249_557 : zF 249 557 = some (.iconst 0, 1, [], 0) := by decide +kernel
theorem f249_558 : zF 249 558 = some (.ireturn, 1, [1], 0) := by decide +kernel
theorem f249_559 : zF 249 559 = some (.aload_n 1, 1, [], 0) := by decide +kernel
theorem f249_560 : zF 249 560 = some (.aload_n 0, 1, [], 0) := by decide +kernel
theorem f249_561 : zF 249 561 = some (.iload_n 3, 1, [], 0) := by decide +kernel
theorem f249_562 : zF 249 562 = some (.iconst 1, 1, [], 0) := by decide +kernel
theorem f249_563 : zF 249 563 = some (.iadd, 1, [], 0) := by decide +kernel
theorem f249_564 : zF 249 564 = some (.iaload, 1, [], 0) := by decide +kernel
theorem f249_565 : zF 249 565 = some (.aload_n 0, 1, [], 0) := by decide +kernel
theorem f249_566 : zF 249 566 = some (.iload_n 3, 1, [], 0) := by decide +kernel
theorem f249_567 : zF 249 567 = some (.iconst 2, 1, [], 0) := by decide +kernel
theorem f249_568 : zF 249 568 = some (.iadd, 1, [], 0) := by decide +kernel
theorem f249_569 : zF 249 569 = some (.iaload, 1, [], 0) := by decide +kernel
theorem f249_570 : zF 249 570 = some (.aload_n 0, 1, [], 0) := by decide +kernel
theorem f249_571 : zF 249 571 = some (.iload_n 3, 1, [], 0) := by decide +kernel
theorem f249_572 : zF 249 572 = some (.iconst 3, 1, [], 0) := by decide +kernel
theorem f249_573 : zF 249 573 = some (.iadd, 1, [], 0) := by decide +kernel
theorem f249_574 : zF 249 574 = some (.iaload, 1, [], 0) := by decide +kernel
theorem f249_575 : zF 249 575 = some (.invokevirtual 77, 3, [0, 127, 9, 4, 4, 0, 0], 0) := by decide +kernel
theorem f249_578 : zF 249 578 = some (.aload_n 2, 1, [], 0) := by decide +kernel
theorem f249_579 : zF 249 579 = some (.aload_n 0, 1, [], 0) := by decide +kernel
theorem f249_580 : zF 249 580 = some (.iload_n 3, 1, [], 0) := by decide +kernel
theorem f249_581 : zF 249 581 = some (.iconst 1, 1, [], 0) := by decide +kernel
theorem f249_582 : zF 249 582 = some (.iadd, 1, [], 0) := by decide +kernel
theorem f249_583 : zF 249 583 = some (.iaload, 1, [], 0) := by decide +kernel
theorem f249_584 : zF 249 584 = some (.aload_n 0, 1, [], 0) := by decide +kernel
theorem f249_585 : zF 249 585 = some (.iload_n 3, 1, [], 0) := by decide +kernel
theorem f249_586 : zF 249 586 = some (.iconst 2, 1, [], 0) := by decide +kernel
theorem f249_587 : zF 249 587 = some (.iadd, 1, [], 0) := by decide +kernel
theorem f249_588 : zF 249 588 = some (.iaload, 1, [], 0) := by decide +kernel
theorem f249_589 : zF 249 589 = some (.aload_n 0, 1, [], 0) := by decide +kernel
theorem f249_590 : zF 249 590 = some (.iload_n 3, 1, [], 0) := by decide +kernel
theorem f249_591 : zF 249 591 = some (.iconst 3, 1, [], 0) := by decide +kernel
theorem f249_592 : zF 249 592 = some (.iadd, 1, [], 0) := by decide +kernel
theorem f249_593 : zF 249 593 = some (.iaload, 1, [], 0) := by decide +kernel
theorem f249_594 : zF 249 594 = some (.invokevirtual 81, 3, [0, 227, 10, 4, 4, 0, 0], 0) := by decide +kernel
theorem f249_597 : zF 249 597 = some (.lcmp, 1, [], 0) := by decide +kernel
theorem f249_598 : zF 249 598 = some (.ifCond .eq 475, 3, [], 0) := by decide +kernel
theorem f249_601 : zF 249 601 = some (.iconst 0, 1, [], 0) := by decide +kernel
theorem f249_602 : zF 249 602 = some (.ireturn, 1, [1], 0) := by decide +kernel
theorem f249_603 : zF 249 603 = some (.aload_n 1, 1, [], 0) := by decide +kernel
theorem f249_604 : zF 249 604 = some (.aload_n 0, 1, [], 0) := by decide +kernel
theorem f249_605 : zF 249 605 = some (.iload_n 3, 1, [], 0) := by decide +kernel
theorem f249_606 : zF 249 606 = some (.iconst 1, 1, [], 0) := by decide +kernel
theorem f249_607 : zF 249 607 = some (.iadd, 1, [], 0) := by decide +kernel
theorem f249_608 : zF 249 608 = some (.iaload, 1, [], 0) := by decide +kernel
theorem f249_609 : zF 249 609 = some (.aload_n 0, 1, [], 0) := by decide +kernel
theorem f249_610 : zF 249 610 = some (.iload_n 3, 1, [], 0) := by decide +kernel
theorem f249_611 : zF 249 611 = some (.iconst 2, 1, [], 0) := by decide +kernel
theorem f249_612 : zF 249 612 = some (.iadd, 1, [], 0) := by decide +kernel
theorem f249_613 : zF 249 613 = some (.iaload, 1, [], 0) := by decide +kernel
theorem f249_614 : zF 249 614 = some (.aload_n 0, 1, [], 0) := by decide +kernel
theorem f249_615 : zF 249 615 = some (.iload_n 3, 1, [], 0) := by decide +kernel
theorem f249_616 : zF 249 616 = some (.iconst 3, 1, [], 0) := by decide +kernel
theorem f249_617 : zF 249 617 = some (.iadd, 1, [], 0) := by decide +kernel
theorem f249_618 : zF 249 618 = some (.iaload, 1, [], 0) := by decide +kernel
theorem f249_619 : zF 249 619 = some (.invokevirtual 82, 3, [0, 128, 9, 4, 4, 0, 0], 0) := by decide +kernel
theorem f249_622 : zF 249 622 = some (.aload_n 2, 1, [], 0) := by decide +kernel
theorem f249_623 : zF 249 623 = some (.aload_n 0, 1, [], 0) := by decide +kernel
theorem f249_624 : zF 249 624 = some (.iload_n 3, 1, [], 0) := by decide +kernel
theorem f249_625 : zF 249 625 = some (.iconst 1, 1, [], 0) := by decide +kernel
theorem f249_626 : zF 249 626 = some (.iadd, 1, [], 0) := by decide +kernel
theorem f249_627 : zF 249 627 = some (.iaload, 1, [], 0) := by decide +kernel
theorem f249_628 : zF 249 628 = some (.aload_n 0, 1, [], 0) := by decide +kernel
theorem f249_629 : zF 249 629 = some (.iload_n 3, 1, [], 0) := by decide +kernel
theorem f249_630 : zF 249 630 = some (.iconst 2, 1, [], 0) := by decide +kernel
theorem f249_631 : zF 249 631 = some (.iadd, 1, [], 0) := by decide +kernel
theorem f249_632 : zF 249 632 = some (.iaload, 1, [], 0) := by decide +kernel
theorem f249_633 : zF 249 633 = some (.aload_n 0, 1, [], 0) := by decide +kernel
theorem f249_634 : zF 249 634 = some (.iload_n 3, 1, [], 0) := by decide +kernel
theorem f249_635 : zF 249 635 = some (.iconst 3, 1, [], 0) := by decide +kernel
theorem f249_636 : zF 249 636 = some (.iadd, 1, [], 0) := by decide +kernel
theorem f249_637 : zF 249 637 = some (.iaload, 1, [], 0) := by decide +kernel
theorem f249_638 : zF 249 638 = some (.invokevirtual 85, 3, [0, 228, 10, 4, 8, 0, 0], 0) := by decide +kernel
theorem f249_641 : zF 249 641 = some (.lcmp, 1, [], 0) := by decide +kernel
theorem f249_642 : zF 249 642 = some (.ifCond .eq 431, 3, [], 0) := by decide +kernel
theorem f249_645 : zF 249 645 = some (.iconst 0, 1, [], 0) := by decide +kernel
theorem f249_646 : zF 249 646 = some (.ireturn, 1, [1], 0) := by decide +kernel
theorem f249_647 : zF 249 647 = some (.aload_n 1, 1, [], 0) := by decide +kernel
theorem f249_648 : zF 249 648 = some (.aload_n 0, 1, [], 0) := by decide +kernel
theorem f249_649 : zF 249 649 = some (.iload_n 3, 1, [], 0) := by decide +kernel
theorem f249_650 : zF 249 650 = some (.iconst 1, 1, [], 0) := by decide +kernel
theorem f249_651 : zF 249 651 = some (.iadd, 1, [], 0) := by decide +kernel
theorem f249_652 : zF 249 652 = some (.iaload, 1, [], 0) := by decide +kernel
theorem f249_653 : zF 249 653 = some (.aload_n 0, 1, [], 0) := by decide +kernel
theorem f249_654 : zF 249 654 = some (.iload_n 3, 1, [], 0) := by decide +kernel
theorem f249_655 : zF 249 655 = some (.iconst 2, 1, [], 0) := by decide +kernel
theorem f249_656 : zF 249 656 = some (.iadd, 1, [], 0) := by decide +kernel
theorem f249_657 : zF 249 657 = some (.iaload, 1, [], 0) := by decide +kernel
theorem f249_658 : zF 249 658 = some (.invokevirtual 86, 3, [0, 129, 9, 3, 3, 0, 0], 0) := by decide +kernel
theorem f249_661 : zF 249 661 = some (.aload_n 2, 1, [], 0) := by decide +kernel
theorem f249_662 : zF 249 662 = some (.aload_n 0, 1, [], 0) := by decide +kernel
theorem f249_663 : zF 249 663 = some (.iload_n 3, 1, [], 0) := by decide +kernel
theorem f249_664 : zF 249 664 = some (.iconst 1, 1, [], 0) := by decide +kernel
theorem f249_665 : zF 249 665 = some (.iadd, 1, [], 0) := by decide +kernel
theorem f249_666 : zF 249 666 = some (.iaload, 1, [], 0) := by decide +kernel
theorem f249_667 : zF 249 667 = some (.aload_n 0, 1, [], 0) := by decide +kernel
theorem f249_668 : zF 249 668 = some (.iload_n 3, 1, [], 0) := by decide +kernel
theorem f249_669 : zF 249 669 = some (.iconst 2, 1, [], 0) := by decide +kernel
theorem f249_670 : zF 249 670 = some (.iadd, 1, [], 0) := by decide +kernel
theorem f249_671 : zF 249 671 = some (.iaload, 1, [], 0) := by decide +kernel
theorem f249_672 : zF 249 672 = some (.invokevirtual 89, 3, [0, 229, 10, 3, 3, 0, 0], 0) := by decide +kernel
theorem f249_675 : zF 249 675 = some (.if_icmp .eq 398, 3, [], 0) := by decide +kernel
theorem f249_678 : zF 249 678 = some (.iconst 0, 1, [], 0) := by decide +kernel
theorem f249_679 : zF 249 679 = some (.ireturn, 1, [1], 0) := by decide +kernel
theorem f249_680 : zF 249 680 = some (.aload_n 1, 1, [], 0) := by decide +kernel
theorem f249_681 : zF 249 681 = some (.aload_n 0, 1, [], 0) := by decide +kernel
theorem f249_682 : zF 249 682 = some (.iload_n 3, 1, [], 0) := by decide +kernel
theorem f249_683 : zF 249 683 = some (.iconst 1, 1, [], 0) := by decide +kernel
theorem f249_684 : zF 249 684 = some (.iadd, 1, [], 0) := by decide +kernel
theorem f249_685 : zF 249 685 = some (.iaload, 1, [], 0) := by decide +kernel
theorem f249_686 : zF 249 686 = some (.invokevirtual 90, 3, [0, 130, 9, 2, 3, 0, 0], 0) := by decide +kernel
theorem f249_689 : zF 249 689 = some (.aload_n 2, 1, [], 0) := by decide +kernel
theorem f249_690 : zF 249 690 = some (.aload_n 0, 1, [], 0) := by decide +kernel
theorem f249_691 : zF 249 691 = some (.iload_n 3, 1, [], 0) := by decide +kernel
theorem f249_692 : zF 249 692 = some (.iconst 1, 1, [], 0) := by decide +kernel
theorem f249_693 : zF 249 693 = some (.iadd, 1, [], 0) := by decide +kernel
theorem f249_694 : zF 249 694 = some (.iaload, 1, [], 0) := by decide +kernel
theorem f249_695 : zF 249 695 = some (.invokevirtual 93, 3, [0, 230, 10, 2, 6, 0, 0], 0) := by decide +kernel
theorem f249_698 : zF 249 698 = some (.if_icmp .eq 375, 3, [], 0) := by decide +kernel
theorem f249_701 : zF 249 701 = some (.iconst 0, 1, [], 0) := by decide +kernel
theorem f249_702 : zF 249 702 = some (.ireturn, 1, [1], 0) := by decide +kernel
theorem f249_703 : zF 249 703 = some (.aload_n 1, 1, [], 0) := by decide +kernel
theorem f249_704 : zF 249 704 = some (.invokevirtual 94, 3, [0, 131, 9, 1, 1, 0, 0], 0) := by decide +kernel
theorem f249_707 : zF 249 707 = some (.aload_n 2, 1, [], 0) := by decide +kernel
theorem f249_708 : zF 249 708 = some (.invokevirtual 97, 3, [0, 231, 10, 1, 2, 0, 0], 0) := by decide +kernel
theorem f249_711 : zF 249 711 = some (.if_icmp .eq 362, 3, [], 0) := by decide +kernel
theorem f249_714 : zF 249 714 = some (.iconst 0, 1, [], 0) := by decide +kernel
theorem f249_715 : zF 249 715 = some (.ireturn, 1, [1], 0) := by decide +kernel
theorem f249_716 : zF 249 716 = some (.aload_n 1, 1, [], 0) := by decide +kernel
theorem f249_717 : zF 249 717 = some (.aload_n 0, 1, [], 0) := by decide +kernel
theorem f249_718 : zF 249 718 = some (.iload_n 3, 1, [], 0) := by decide +kernel
theorem f249_719 : zF 249 719 = some (.iconst 1, 1, [], 0) := by decide +kernel
theorem f249_720 : zF 249 720 = some (.iadd, 1, [], 0) := by decide +kernel
theorem f249_721 : zF 249 721 = some (.iaload, 1, [], 0) := by decide +kernel
theorem f249_722 : zF 249 722 = some (.invokevirtual 98, 3, [0, 132, 9, 2, 2, 0, 0], 0) := by decide +kernel
theorem f249_725 : zF 249 725 = some (.aload_n 2, 1, [], 0) := by decide +kernel
theorem f249_726 : zF 249 726 = some (.aload_n 0, 1, [], 0) := by decide +kernel
theorem f249_727 : zF 249 727 = some (.iload_n 3, 1, [], 0) := by decide +kernel
theorem f249_728 : zF 249 728 = some (.iconst 1, 1, [], 0) := by decide +kernel
theorem f249_729 : zF 249 729 = some (.iadd, 1, [], 0) := by decide +kernel
theorem f249_730 : zF 249 730 = some (.iaload, 1, [], 0) := by decide +kernel
theorem f249_731 : zF 249 731 = some (.invokevirtual 101, 3, [0, 232, 10, 2, 3, 0, 0], 0) := by decide +kernel
theorem f249_734 : zF 249 734 = some (.if_icmp .eq 339, 3, [], 0) := by decide +kernel
theorem f249_737 : zF 249 737 = some (.iconst 0, 1, [], 0) := by decide +kernel
theorem f249_738 : zF 249 738 = some (.ireturn, 1, [1], 0) := by decide +kernel
theorem f249_739 : zF 249 739 = some (.aload_n 1, 1, [], 0) := by decide +kernel
theorem f249_740 : zF 249 740 = some (.invokevirtual 102, 3, [0, 133, 9, 1, 1, 0, 0], 0) := by decide +kernel
theorem f249_743 : zF 249 743 = some (.aload_n 2, 1, [], 0) := by decide +kernel
theorem f249_744 : zF 249 744 = some (.invokevirtual 105, 3, [0, 233, 10, 1, 2, 0, 0], 0) := by decide +kernel
theorem f249_747 : zF 249 747 = some (.if_icmp .eq 326, 3, [], 0) := by decide +kernel
theorem f249_750 : zF 249 750 = some (.iconst 0, 1, [], 0) := by decide +kernel
theorem f249_751 : zF 249 751 = some (.ireturn, 1, [1], 0) := by decide +kernel
theorem f249_752 : zF 249 752 = some (.aload_n 1, 1, [], 0) := by decide +kernel
theorem f249_753 : zF 249 753 = some (.invokevirtual 106, 3, [0, 134, 9, 1, 1, 0, 0], 0) := by decide +kernel
theorem f249_756 : zF 249 756 = some (.aload_n 2, 1, [], 0) := by decide +kernel
theorem f249_757 : zF 249 757 = some (.invokevirtual 109, 3, [0, 234, 10, 1, 2, 0, 0], 0) := by decide +kernel
theorem f249_760 : zF 249 760 = some (.if_icmp .eq 313, 3, [], 0) := by decide +kernel
theorem f249_763 : zF 249 763 = some (.iconst 0, 1, [], 0) := by decide +kernel
theorem f249_764 : zF 249 764 = some (.ireturn, 1, [1], 0) := by decide +kernel
theorem f249_765 : zF 249 765 = some (.aload_n 1, 1, [], 0) := by decide +kernel
theorem f249_766 : zF 249 766 = some (.aload_n 0, 1, [], 0) := by decide +kernel
theorem f249_767 : zF 249 767 = some (.iload_n 3, 1, [], 0) := by decide +kernel
theorem f249_768 : zF 249 768 = some (.iconst 1, 1, [], 0) := by decide +kernel
theorem f249_769 : zF 249 769 = some (.iadd, 1, [], 0) := by decide +kernel
theorem f249_770 : zF 249 770 = some (.iaload, 1, [], 0) := by decide +kernel
theorem f249_771 : zF 249 771 = some (.aload_n 0, 1, [], 0) := by decide +kernel
theorem f249_772 : zF 249 772 = some (.iload_n 3, 1, [], 0) := by decide +kernel
theorem f249_773 : zF 249 773 = some (.iconst 2, 1, [], 0) := by decide +kernel
theorem f249_774 : zF 249 774 = some (.iadd, 1, [], 0) := by decide +kernel
theorem f249_775 : zF 249 775 = some (.iaload, 1, [], 0) := by decide +kernel
theorem f249_776 : zF 249 776 = some (.aload_n 0, 1, [], 0) := by decide +kernel
theorem f249_777 : zF 249 777 = some (.iload_n 3, 1, [], 0) := by decide +kernel
theorem f249_778 : zF 249 778 = some (.iconst 3, 1, [], 0) := by decide +kernel
theorem f249_779 : zF 249 779 = some (.iadd, 1, [], 0) := by decide +kernel
theorem f249_780 : zF 249 780 = some (.iaload, 1, [], 0) := by decide +kernel
theorem f249_781 : zF 249 781 = some (.aload_n 0, 1, [], 0) := by decide +kernel
theorem f249_782 : zF 249 782 = some (.iload_n 3, 1, [], 0) := by decide +kernel
theorem f249_783 : zF 249 783 = some (.iconst 4, 1, [], 0) := by decide +kernel
theorem f249_784 : zF 249 784 = some (.iadd, 1, [], 0) := by decide +kernel
theorem f249_785 : zF 249 785 = some (.iaload, 1, [], 0) := by decide +kernel
theorem f249_786 : zF 249 786 = some (.invokevirtual 110, 3, [0, 135, 9, 5, 6, 0, 0], 0) := by decide +kernel
theorem f249_789 : zF 249 789 = some (.aload_n 2, 1, [], 0) := by decide +kernel
theorem f249_790 : zF 249 790 = some (.aload_n 0, 1, [], 0) := by decide +kernel
theorem f249_791 : zF 249 791 = some (.iload_n 3, 1, [], 0) := by decide +kernel
theorem f249_792 : zF 249 792 = some (.iconst 1, 1, [], 0) := by decide +kernel
theorem f249_793 : zF 249 793 = some (.iadd, 1, [], 0) := by decide +kernel
theorem f249_794 : zF 249 794 = some (.iaload, 1, [], 0) := by decide +kernel
theorem f249_795 : zF 249 795 = some (.aload_n 0, 1, [], 0) := by decide +kernel
theorem f249_796 : zF 249 796 = some (.iload_n 3, 1, [], 0) := by decide +kernel
theorem f249_797 : zF 249 797 = some (.iconst 2, 1, [], 0) := by decide +kernel
theorem f249_798 : zF 249 798 = some (.iadd, 1, [], 0) := by decide +kernel
theorem f249_799 : zF 249 799 = some (.iaload, 1, [], 0) := by decide +kernel
theorem f249_800 : zF 249 800 = some (.aload_n 0, 1, [], 0) := by decide +kernel
theorem f249_801 : zF 249 801 = some (.iload_n 3, 1, [], 0) := by decide +kernel
theorem f249_802 : zF 249 802 = some (.iconst 3, 1, [], 0) := by decide +kernel
theorem f249_803 : zF 249 803 = some (.iadd, 1, [], 0) := by decide +kernel
theorem f249_804 : zF 249 804 = some (.iaload, 1, [], 0) := by decide +kernel
theorem f249_805 : zF 249 805 = some (.aload_n 0, 1, [], 0) := by decide +kernel
theorem f249_806 : zF 249 806 = some (.iload_n 3, 1, [], 0) := by decide +kernel
theorem f249_807 : zF 249 807 = some (.iconst 4, 1, [], 0) := by decide +kernel
theorem f249_808 : zF 249 808 = some (.iadd, 1, [], 0) := by decide +kernel
theorem f249_809 : zF 249 809 = some (.iaload, 1, [], 0) := by decide +kernel
theorem f249_810 : zF 249 810 = some (.invokevirtual 114, 3, [0, 238, 10, 5, 10, 0, 0], 0) := by decide +kernel
theorem f249_813 : zF 249 813 = some (.if_icmp .eq 260, 3, [], 0) := by decide +kernel
theorem f249_816 : zF 249 816 = some (.iconst 0, 1, [], 0) := by decide +kernel
theorem f249_817 : zF 249 817 = some (.ireturn, 1, [1], 0) := by decide +kernel
theorem f249_818 : zF 249 818 = some (.aload_n 1, 1, [], 0) := by decide +kernel
theorem f249_819 : zF 249 819 = some (.aload_n 0, 1, [], 0) := by decide +kernel
theorem f249_820 : zF 249 820 = some (.iload_n 3, 1, [], 0) := by decide +kernel
theorem f249_821 : zF 249 821 = some (.iconst 1, 1, [], 0) := by decide +kernel
theorem f249_822 : zF 249 822 = some (.iadd, 1, [], 0) := by decide +kernel
theorem f249_823 : zF 249 823 = some (.iaload, 1, [], 0) := by decide +kernel
theorem f249_824 : zF 249 824 = some (.aload_n 0, 1, [], 0) := by decide +kernel
theorem f249_825 : zF 249 825 = some (.iload_n 3, 1, [], 0) := by decide +kernel
theorem f249_826 : zF 249 826 = some (.iconst 2, 1, [], 0) := by decide +kernel
theorem f249_827 : zF 249 827 = some (.iadd, 1, [], 0) := by decide +kernel
theorem f249_828 : zF 249 828 = some (.iaload, 1, [], 0) := by decide +kernel
theorem f249_829 : zF 249 829 = some (.aload_n 0, 1, [], 0) := by decide +kernel
theorem f249_830 : zF 249 830 = some (.iload_n 3, 1, [], 0) := by decide +kernel
theorem f249_831 : zF 249 831 = some (.iconst 3, 1, [], 0) := by decide +kernel
theorem f249_832 : zF 249 832 = some (.iadd, 1, [], 0) := by decide +kernel
theorem f249_833 : zF 249 833 = some (.iaload, 1, [], 0) := by decide +kernel
theorem f249_834 : zF 249 834 = some (.invokevirtual 115, 3, [0, 136, 9, 4, 6, 0, 0], 0) := by decide +kernel
theorem f249_837 : zF 249 837 = some (.aload_n 2, 1, [], 0) := by decide +kernel
theorem f249_838 : zF 249 838 = some (.aload_n 0, 1, [], 0) := by decide +kernel
theorem f249_839 : zF 249 839 = some (.iload_n 3, 1, [], 0) := by decide +kernel
theorem f249_840 : zF 249 840 = some (.iconst 1, 1, [], 0) := by decide +kernel
theorem f249_841 : zF 249 841 = some (.iadd, 1, [], 0) := by decide +kernel
theorem f249_842 : zF 249 842 = some (.iaload, 1, [], 0) := by decide +kernel
theorem f249_843 : zF 249 843 = some (.aload_n 0, 1, [], 0) := by decide +kernel
theorem f249_844 : zF 249 844 = some (.iload_n 3, 1, [], 0) := by decide +kernel
theorem f249_845 : zF 249 845 = some (.iconst 2, 1, [], 0) := by decide +kernel
theorem f249_846 : zF 249 846 = some (.iadd, 1, [], 0) := by decide +kernel
theorem f249_847 : zF 249 847 = some (.iaload, 1, [], 0) := by decide +kernel
theorem f249_848 : zF 249 848 = some (.aload_n 0, 1, [], 0) := by decide +kernel
theorem f249_849 : zF 249 849 = some (.iload_n 3, 1, [], 0) := by decide +kernel
theorem f249_850 : zF 249 850 = some (.iconst 3, 1, [], 0) := by decide +kernel
theorem f249_851 : zF 249 851 = some (.iadd, 1, [], 0) := by decide +kernel
theorem f249_852 : zF 249 852 = some (.iaload, 1, [], 0) := by decide +kernel
theorem f249_853 : zF 249 853 = some (.invokevirtual 118, 3, [0, 239, 10, 4, 6, 0, 0], 0) := by decide +kernel
theorem f249_856 : zF 249 856 = some (.if_icmp .eq 217, 3, [], 0) := by decide +kernel
theorem f249_859 : zF 249 859 = some (.iconst 0, 1, [], 0) := by decide +kernel
theorem f249_860 : zF 249 860 = some (.ireturn, 1, [1], 0) := by decide +kernel
theorem f249_861 : zF 249 861 = some (.aload_n 1, 1, [], 0) := by decide +kernel
theorem f249_862 : zF 249 862 = some (.aload_n 0, 1, [], 0) := by decide +kernel
theorem f249_863 : zF 249 863 = some (.iload_n 3, 1, [], 0) := by decide +kernel
theorem f249_864 : zF 249 864 = some (.iconst 1, 1, [], 0) := by decide +kernel
theorem f249_865 : zF 249 865 = some (.iadd, 1, [], 0) := by decide +kernel
theorem f249_866 : zF 249 866 = some (.iaload, 1, [], 0) := by decide +kernel
theorem f249_867 : zF 249 867 = some (.aload_n 0, 1, [], 0) := by decide +kernel
theorem f249_868 : zF 249 868 = some (.iload_n 3, 1, [], 0) := by decide +kernel
theorem f249_869 : zF 249 869 = some (.iconst 2, 1, [], 0) := by decide +kernel
theorem f249_870 : zF 249 870 = some (.iadd, 1, [], 0) := by decide +kernel
theorem f249_871 : zF 249 871 = some (.iaload, 1, [], 0) := by decide +kernel
theorem f249_872 : zF 249 872 = some (.aload_n 0, 1, [], 0) := by decide +kernel
theorem f249_873 : zF 249 873 = some (.iload_n 3, 1, [], 0) := by decide +kernel
theorem f249_874 : zF 249 874 = some (.iconst 3, 1, [], 0) := by decide +kernel
theorem f249_875 : zF 249 875 = some (.iadd, 1, [], 0) := by decide +kernel
theorem f249_876 : zF 249 876 = some (.iaload, 1, [], 0) := by decide +kernel
theorem f249_877 : zF 249 877 = some (.invokevirtual 119, 3, [0, 137, 9, 4, 4, 0, 0], 0) := by decide +kernel
theorem f249_880 : zF 249 880 = some (.aload_n 2, 1, [], 0) := by decide +kernel
theorem f249_881 : zF 249 881 = some (.aload_n 0, 1, [], 0) := by decide +kernel
theorem f249_882 : zF 249 882 = some (.iload_n 3, 1, [], 0) := by decide +kernel
theorem f249_883 : zF 249 883 = some (.iconst 1, 1, [], 0) := by decide +kernel
theorem f249_884 : zF 249 884 = some (.iadd, 1, [], 0) := by decide +kernel
theorem f249_885 : zF 249 885 = some (.iaload, 1, [], 0) := by decide +kernel
theorem f249_886 : zF 249 886 = some (.aload_n 0, 1, [], 0) := by decide +kernel
theorem f249_887 : zF 249 887 = some (.iload_n 3, 1, [], 0) := by decide +kernel
theorem f249_888 : zF 249 888 = some (.iconst 2, 1, [], 0) := by decide +kernel
theorem f249_889 : zF 249 889 = some (.iadd, 1, [], 0) := by decide +kernel
theorem f249_890 : zF 249 890 = some (.iaload, 1, [], 0) := by decide +kernel
theorem f249_891 : zF 249 891 = some (.aload_n 0, 1, [], 0) := by decide +kernel
theorem f249_892 : zF 249 892 = some (.iload_n 3, 1, [], 0) := by decide +kernel
theorem f249_893 : zF 249 893 = some (.iconst 3, 1, [], 0) := by decide +kernel
theorem f249_894 : zF 249 894 = some (.iadd, 1, [], 0) := by decide +kernel
theorem f249_895 : zF 249 895 = some (.iaload, 1, [], 0) := by decide +kernel
theorem f249_896 : zF 249 896 = some (.invokevirtual 122, 3, [0, 240, 10, 4, 5, 0, 0], 0) := by decide +kernel
theorem f249_899 : zF 249 899 = some (.if_icmp .eq 174, 3, [], 0) := by decide +kernel
theorem f249_902 : zF 249 902 = some (.iconst 0, 1, [], 0) := by decide +kernel
theorem f249_903 : zF 249 903 = some (.ireturn, 1, [1], 0) := by decide +kernel
theorem f249_904 : zF 249 904 = some (.aload_n 1, 1, [], 0) := by decide +kernel
theorem f249_905 : zF 249 905 = some (.aload_n 0, 1, [], 0) := by decide +kernel
theorem f249_906 : zF 249 906 = some (.iload_n 3, 1, [], 0) := by decide +kernel
theorem f249_907 : zF 249 907 = some (.iconst 1, 1, [], 0) := by decide +kernel
theorem f249_908 : zF 249 908 = some (.iadd, 1, [], 0) := by decide +kernel
theorem f249_909 : zF 249 909 = some (.iaload, 1, [], 0) := by decide +kernel
theorem f249_910 : zF 249 910 = some (.invokevirtual 123, 3, [0, 138, 9, 2, 2, 0, 0], 0) := by decide +kernel
theorem f249_913 : zF 249 913 = some (.aload_n 2, 1, [], 0) := by decide +kernel
theorem f249_914 : zF 249 914 = some (.aload_n 0, 1, [], 0) := by decide +kernel
theorem f249_915 : zF 249 915 = some (.iload_n 3, 1, [], 0) := by decide +kernel
theorem f249_916 : zF 249 916 = some (.iconst 1, 1, [], 0) := by decide +kernel
theorem f249_917 : zF 249 917 = some (.iadd, 1, [], 0) := by decide +kernel
theorem f249_918 : zF 249 918 = some (.iaload, 1, [], 0) := by decide +kernel
theorem f249_919 : zF 249 919 = some (.invokevirtual 126, 3, [0, 241, 10, 2, 2, 0, 0], 0) := by decide +kernel
theorem f249_922 : zF 249 922 = some (.if_icmp .eq 151, 3, [], 0) := by decide +kernel
theorem f249_925 : zF 249 925 = some (.iconst 0, 1, [], 0) := by decide +kernel
theorem f249_926 : zF 249 926 = some (.ireturn, 1, [1], 0) := by decide +kernel
theorem f249_927 : zF 249 927 = some (.aload_n 1, 1, [], 0) := by decide +kernel
theorem f249_928 : zF 249 928 = some (.aload_n 0, 1, [], 0) := by decide +kernel
theorem f249_929 : zF 249 929 = some (.iload_n 3, 1, [], 0) := by decide +kernel
theorem f249_930 : zF 249 930 = some (.iconst 1, 1, [], 0) := by decide +kernel
theorem f249_931 : zF 249 931 = some (.iadd, 1, [], 0) := by decide +kernel
theorem f249_932 : zF 249 932 = some (.iaload, 1, [], 0) := by decide +kernel
theorem f249_933 : zF 249 933 = some (.aload_n 0, 1, [], 0) := by decide +kernel
theorem f249_934 : zF 249 934 = some (.iload_n 3, 1, [], 0) := by decide +kernel
theorem f249_935 : zF 249 935 = some (.iconst 2, 1, [], 0) := by decide +kernel
theorem f249_936 : zF 249 936 = some (.iadd, 1, [], 0) := by decide +kernel
theorem f249_937 : zF 249 937 = some (.iaload, 1, [], 0) := by decide +kernel
theorem f249_938 : zF 249 938 = some (.aload_n 0, 1, [], 0) := by decide +kernel
theorem f249_939 : zF 249 939 = some (.iload_n 3, 1, [], 0) := by decide +kernel
theorem f249_940 : zF 249 940 = some (.iconst 3, 1, [], 0) := by decide +kernel
theorem f249_941 : zF 249 941 = some (.iadd, 1, [], 0) := by decide +kernel
theorem f249_942 : zF 249 942 = some (.iaload, 1, [], 0) := by decide +kernel
theorem f249_943 : zF 249 943 = some (.aload_n 0, 1, [], 0) := by decide +kernel
theorem f249_944 : zF 249 944 = some (.iload_n 3, 1, [], 0) := by decide +kernel
theorem f249_945 : zF 249 945 = some (.iconst 4, 1, [], 0) := by decide +kernel
theorem f249_946 : zF 249 946 = some (.iadd, 1, [], 0) := by decide +kernel
theorem f249_947 : zF 249 947 = some (.iaload, 1, [], 0) := by decide +kernel
theorem f249_948 : zF 249 948 = some (.i2l, 1, [], 0) := by decide +kernel
theorem f249_949 : zF 249 949 = some (.bipush 32, 2, [], 0) := by decide +kernel
theorem f249_951 : zF 249 951 = some (.lshl, 1, [], 0) := by decide +kernel
theorem f249_952 : zF 249 952 = some (.aload_n 0, 1, [], 0) := by decide +kernel
theorem f249_953 : zF 249 953 = some (.iload_n 3, 1, [], 0) := by decide +kernel
theorem f249_954 : zF 249 954 = some (.iconst 5, 1, [], 0) := by decide +kernel
theorem f249_955 : zF 249 955 = some (.iadd, 1, [], 0) := by decide +kernel
theorem f249_956 : zF 249 956 = some (.iaload, 1, [], 0) := by decide +kernel
theorem f249_957 : zF 249 957 = some (.i2l, 1, [], 0) := by decide +kernel
theorem f249_958 : zF 249 958 = some (.ldc2_w 127, 3, [], 4294967295) := by decide +kernel
theorem f249_961 : zF 249 961 = some (.land, 1, [], 0) := by decide +kernel
theorem f249_962 : zF 249 962 = some (.lor, 1, [], 0) := by decide +kernel
theorem f249_963 : zF 249 963 = some (.invokevirtual 129, 3, [0, 139, 9, 5, 7, 0, 0], 0) := by decide +kernel
theorem f249_966 : zF 249 966 = some (.aload_n 2, 1, [], 0) := by decide +kernel
theorem f249_967 : zF 249 967 = some (.aload_n 0, 1, [], 0) := by decide +kernel
theorem f249_968 : zF 249 968 = some (.iload_n 3, 1, [], 0) := by decide +kernel
theorem f249_969 : zF 249 969 = some (.iconst 1, 1, [], 0) := by decide +kernel
theorem f249_970 : zF 249 970 = some (.iadd, 1, [], 0) := by decide +kernel
theorem f249_971 : zF 249 971 = some (.iaload, 1, [], 0) := by decide +kernel
theorem f249_972 : zF 249 972 = some (.aload_n 0, 1, [], 0) := by decide +kernel
theorem f249_973 : zF 249 973 = some (.iload_n 3, 1, [], 0) := by decide +kernel
theorem f249_974 : zF 249 974 = some (.iconst 2, 1, [], 0) := by decide +kernel
theorem f249_975 : zF 249 975 = some (.iadd, 1, [], 0) := by decide +kernel
theorem f249_976 : zF 249 976 = some (.iaload, 1, [], 0) := by decide +kernel
theorem f249_977 : zF 249 977 = some (.aload_n 0, 1, [], 0) := by decide +kernel
theorem f249_978 : zF 249 978 = some (.iload_n 3, 1, [], 0) := by decide +kernel
theorem f249_979 : zF 249 979 = some (.iconst 3, 1, [], 0) := by decide +kernel
theorem f249_980 : zF 249 980 = some (.iadd, 1, [], 0) := by decide +kernel
theorem f249_981 : zF 249 981 = some (.iaload, 1, [], 0) := by decide +kernel
theorem f249_982 : zF 249 982 = some (.aload_n 0, 1, [], 0) := by decide +kernel
theorem f249_983 : zF 249 983 = some (.iload_n 3, 1, [], 0) := by decide +kernel
theorem f249_984 : zF 249 984 = some (.iconst 4, 1, [], 0) := by decide +kernel
theorem f249_985 : zF 249 985 = some (.iadd, 1, [], 0) := by decide +kernel
theorem f249_986 : zF 249 986 = some (.iaload, 1, [], 0) := by decide +kernel
theorem f249_987 : zF 249 987 = some (.i2l, 1, [], 0) := by decide +kernel
theorem f249_988 : zF 249 988 = some (.bipush 32, 2, [], 0) := by decide +kernel
theorem f249_990 : zF 249 990 = some (.lshl, 1, [], 0) := by decide +kernel
theorem f249_991 : zF 249 991 = some (.aload_n 0, 1, [], 0) := by decide +kernel
theorem f249_992 : zF 249 992 = some (.iload_n 3, 1, [], 0) := by decide +kernel
theorem f249_993 : zF 249 993 = some (.iconst 5, 1, [], 0) := by decide +kernel
theorem f249_994 : zF 249 994 = some (.iadd, 1, [], 0) := by decide +kernel
theorem f249_995 : zF 249 995 = some (.iaload, 1, [], 0) := by decide +kernel
theorem f249_996 : zF 249 996 = some (.i2l, 1, [], 0) := by decide +kernel
theorem f249_997 : zF 249 997 = some (.ldc2_w 127, 3, [], 4294967295) := by decide +kernel
theorem f249_1000 : zF 249 1000 = some (.land, 1, [], 0) := by decide +kernel
theorem f249_1001 : zF 249 1001 = some (.lor, 1, [], 0) := by decide +kernel
theorem f249_1002 : zF 249 1002 = some (.invokevirtual 133, 3, [0, 242, 10, 5, 7, 0, 0], 0) := by decide +kernel
theorem f249_1005 : zF 249 1005 = some (.if_icmp .eq 68, 3, [], 0) := by decide +kernel
theorem f249_1008 : zF 249 1008 = some (.iconst 0, 1, [], 0) := by decide +kernel
theorem f249_1009 : zF 249 1009 = some (.ireturn, 1, [1], 0) := by decide +kernel
theorem f249_1010 : zF 249 1010 = some (.aload_n 1, 1, [], 0) := by decide +kernel
theorem f249_1011 : zF 249 1011 = some (.aload_n 0, 1, [], 0) := by decide +kernel
theorem f249_1012 : zF 249 1012 = some (.iload_n 3, 1, [], 0) := by decide +kernel
theorem f249_1013 : zF 249 1013 = some (.iconst 1, 1, [], 0) := by decide +kernel
theorem f249_1014 : zF 249 1014 = some (.iadd, 1, [], 0) := by decide +kernel
theorem f249_1015 : zF 249 1015 = some (.iaload, 1, [], 0) := by decide +kernel
theorem f249_1016 : zF 249 1016 = some (.aload_n 0, 1, [], 0) := by decide +kernel
theorem f249_1017 : zF 249 1017 = some (.iload_n 3, 1, [], 0) := by decide +kernel
theorem f249_1018 : zF 249 1018 = some (.iconst 2, 1, [], 0) := by decide +kernel
theorem f249_1019 : zF 249 1019 = some (.iadd, 1, [], 0) := by decide +kernel
theorem f249_1020 : zF 249 1020 = some (.iaload, 1, [], 0) := by decide +kernel
theorem f249_1021 : zF 249 1021 = some (.aload_n 0, 1, [], 0) := by decide +kernel
theorem f249_1022 : zF 249 1022 = some (.iload_n 3, 1, [], 0) := by decide +kernel
theorem f249_1023 : zF 249 1023 = some (.iconst 3, 1, [], 0) := by decide +kernel
theorem f249_1024 : zF 249 1024 = some (.iadd, 1, [], 0) := by decide +kernel
theorem f249_1025 : zF 249 1025 = some (.iaload, 1, [], 0) := by decide +kernel
theorem f249_1026 : zF 249 1026 = some (.aload_n 0, 1, [], 0) := by decide +kernel
theorem f249_1027 : zF 249 1027 = some (.iload_n 3, 1, [], 0) := by decide +kernel
theorem f249_1028 : zF 249 1028 = some (.iconst 4, 1, [], 0) := by decide +kernel
theorem f249_1029 : zF 249 1029 = some (.iadd, 1, [], 0) := by decide +kernel
theorem f249_1030 : zF 249 1030 = some (.iaload, 1, [], 0) := by decide +kernel
theorem f249_1031 : zF 249 1031 = some (.aload_n 0, 1, [], 0) := by decide +kernel
theorem f249_1032 : zF 249 1032 = some (.iload_n 3, 1, [], 0) := by decide +kernel
theorem f249_1033 : zF 249 1033 = some (.iconst 5, 1, [], 0) := by decide +kernel
theorem f249_1034 : zF 249 1034 = some (.iadd, 1, [], 0) := by decide +kernel
theorem f249_1035 : zF 249 1035 = some (.iaload, 1, [], 0) := by decide +kernel
theorem f249_1036 : zF 249 1036 = some (.invokevirtual 134, 3, [0, 140, 9, 6, 8, 0, 0], 0) := by decide +kernel
theorem f249_1039 : zF 249 1039 = some (.aload_n 2, 1, [], 0) := by decide +kernel
theorem f249_1040 : zF 249 1040 = some (.aload_n 0, 1, [], 0) := by decide +kernel
theorem f249_1041 : zF 249 1041 = some (.iload_n 3, 1, [], 0) := by decide +kernel
theorem f249_1042 : zF 249 1042 = some (.iconst 1, 1, [], 0) := by decide +kernel
theorem f249_1043 : zF 249 1043 = some (.iadd, 1, [], 0) := by decide +kernel
theorem f249_1044 : zF 249 1044 = some (.iaload, 1, [], 0) := by decide +kernel
theorem f249_1045 : zF 249 1045 = some (.aload_n 0, 1, [], 0) := by decide +kernel
theorem f249_1046 : zF 249 1046 = some (.iload_n 3, 1, [], 0) := by decide +kernel
theorem f249_1047 : zF 249 1047 = some (.iconst 2, 1, [], 0) := by decide +kernel
theorem f249_1048 : zF 249 1048 = some (.iadd, 1, [], 0) := by decide +kernel
theorem f249_1049 : zF 249 1049 = some (.iaload, 1, [], 0) := by decide +kernel
theorem f249_1050 : zF 249 1050 = some (.aload_n 0, 1, [], 0) := by decide +kernel
theorem f249_1051 : zF 249 1051 = some (.iload_n 3, 1, [], 0) := by decide +kernel
theorem f249_1052 : zF 249 1052 = some (.iconst 3, 1, [], 0) := by decide +kernel
theorem f249_1053 : zF 249 1053 = some (.iadd, 1, [], 0) := by decide +kernel
theorem f249_1054 : zF 249 1054 = some (.iaload, 1, [], 0) := by decide +kernel
theorem f249_1055 : zF 249 1055 = some (.aload_n 0, 1, [], 0) := by decide +kernel
theorem f249_1056 : zF 249 1056 = some (.iload_n 3, 1, [], 0) := by decide +kernel
theorem f249_1057 : zF 249 1057 = some (.iconst 4, 1, [], 0) := by decide +kernel
theorem f249_1058 : zF 249 1058 = some (.iadd, 1, [], 0) := by decide +kernel
theorem f249_1059 : zF 249 1059 = some (.iaload, 1, [], 0) := by decide +kernel
theorem f249_1060 : zF 249 1060 = some (.aload_n 0, 1, [], 0) := by decide +kernel
theorem f249_1061 : zF 249 1061 = some (.iload_n 3, 1, [], 0) := by decide +kernel
theorem f249_1062 : zF 249 1062 = some (.iconst 5, 1, [], 0) := by decide +kernel
theorem f249_1063 : zF 249 1063 = some (.iadd, 1, [], 0) := by decide +kernel
theorem f249_1064 : zF 249 1064 = some (.iaload, 1, [], 0) := by decide +kernel
theorem f249_1065 : zF 249 1065 = some (.invokevirtual 138, 3, [0, 243, 10, 6, 7, 0, 0], 0) := by decide +kernel
theorem f249_1068 : zF 249 1068 = some (.if_icmp .eq 5, 3, [], 0) := by decide +kernel
theorem f249_1071 : zF 249 1071 = some (.iconst 0, 1, [], 0) := by decide +kernel
theorem f249_1072 : zF 249 1072 = some (.ireturn, 1, [1], 0) := by decide +kernel
theorem f249_1073 : zF 249 1073 = some (.iinc 3 6, 3, [], 0) := by decide +kernel
theorem f249_1076 : zF 249 1076 = some (.goto (-1058), 3, [], 0) := by decide +kernel
theorem f249_1079 : zF 249 1079 = some (.iconst 1, 1, [], 0) := by decide +kernel
theorem f249_1080 : zF 249 1080 = some (.ireturn, 1, [1], 0) := by decide +kernel

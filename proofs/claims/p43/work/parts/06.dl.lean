theorem dL_below_0 : decode cL_below 0 = .ok (.iload_n 0, 1) := by decide +kernel
theorem dL_below_1 : decode cL_below 1 = .ok (.ldc 7, 2) := by decide +kernel
theorem dL_below_3 : decode cL_below 3 = .ok (.iand, 1) := by decide +kernel
theorem dL_below_4 : decode cL_below 4 = .ok (.iload_n 1, 1) := by decide +kernel
theorem dL_below_5 : decode cL_below 5 = .ok (.irem, 1) := by decide +kernel
theorem dL_below_6 : decode cL_below 6 = .ok (.ireturn, 1) := by decide +kernel
theorem dL_cell_0 : decode cL_cell 0 = .ok (.iload_n 1, 1) := by decide +kernel
theorem dL_cell_1 : decode cL_cell 1 = .ok (.aload_n 0, 1) := by decide +kernel
theorem dL_cell_2 : decode cL_cell 2 = .ok (.arraylength, 1) := by decide +kernel
theorem dL_cell_3 : decode cL_cell 3 = .ok (.if_icmp .ge 9, 3) := by decide +kernel
theorem dL_cell_6 : decode cL_cell 6 = .ok (.aload_n 0, 1) := by decide +kernel
theorem dL_cell_7 : decode cL_cell 7 = .ok (.iload_n 1, 1) := by decide +kernel
theorem dL_cell_8 : decode cL_cell 8 = .ok (.iaload, 1) := by decide +kernel
theorem dL_cell_9 : decode cL_cell 9 = .ok (.goto 9, 3) := by decide +kernel
theorem dL_cell_12 : decode cL_cell 12 = .ok (.ldc 8, 2) := by decide +kernel
theorem dL_cell_14 : decode cL_cell 14 = .ok (.iload_n 1, 1) := by decide +kernel
theorem dL_cell_15 : decode cL_cell 15 = .ok (.iconst 3, 1) := by decide +kernel
theorem dL_cell_16 : decode cL_cell 16 = .ok (.iadd, 1) := by decide +kernel
theorem dL_cell_17 : decode cL_cell 17 = .ok (.imul, 1) := by decide +kernel
theorem dL_cell_18 : decode cL_cell 18 = .ok (.ireturn, 1) := by decide +kernel
theorem dL_act_0 : decode cL_act 0 = .ok (.iload_n 2, 1) := by decide +kernel
theorem dL_act_1 : decode cL_act 1 = .ok (.iconst 4, 1) := by decide +kernel
theorem dL_act_2 : decode cL_act 2 = .ok (.ishr, 1) := by decide +kernel
theorem dL_act_3 : decode cL_act 3 = .ok (.aload_n 1, 1) := by decide +kernel
theorem dL_act_4 : decode cL_act 4 = .ok (.getfield 9, 3) := by decide +kernel
theorem dL_act_7 : decode cL_act 7 = .ok (.arraylength, 1) := by decide +kernel
theorem dL_act_8 : decode cL_act 8 = .ok (.invokestatic 15, 3) := by decide +kernel
theorem dL_act_11 : decode cL_act 11 = .ok (.istore_n 3, 1) := by decide +kernel
theorem dL_act_12 : decode cL_act 12 = .ok (.iload_n 2, 1) := by decide +kernel
theorem dL_act_13 : decode cL_act 13 = .ok (.bipush 6, 2) := by decide +kernel
theorem dL_act_15 : decode cL_act 15 = .ok (.ishr, 1) := by decide +kernel
theorem dL_act_16 : decode cL_act 16 = .ok (.iconst 4, 1) := by decide +kernel
theorem dL_act_17 : decode cL_act 17 = .ok (.invokestatic 15, 3) := by decide +kernel
theorem dL_act_20 : decode cL_act 20 = .ok (.istore 4, 2) := by decide +kernel
theorem dL_act_22 : decode cL_act 22 = .ok (.aload_n 1, 1) := by decide +kernel
theorem dL_act_23 : decode cL_act 23 = .ok (.getfield 21, 3) := by decide +kernel
theorem dL_act_26 : decode cL_act 26 = .ok (.arraylength, 1) := by decide +kernel
theorem dL_act_27 : decode cL_act 27 = .ok (.ifCond .ne 7, 3) := by decide +kernel
theorem dL_act_30 : decode cL_act 30 = .ok (.iconst (-1), 1) := by decide +kernel
theorem dL_act_31 : decode cL_act 31 = .ok (.goto 14, 3) := by decide +kernel
theorem dL_act_34 : decode cL_act 34 = .ok (.iload_n 2, 1) := by decide +kernel
theorem dL_act_35 : decode cL_act 35 = .ok (.iconst 5, 1) := by decide +kernel
theorem dL_act_36 : decode cL_act 36 = .ok (.ishr, 1) := by decide +kernel
theorem dL_act_37 : decode cL_act 37 = .ok (.aload_n 1, 1) := by decide +kernel
theorem dL_act_38 : decode cL_act 38 = .ok (.getfield 21, 3) := by decide +kernel
theorem dL_act_41 : decode cL_act 41 = .ok (.arraylength, 1) := by decide +kernel
theorem dL_act_42 : decode cL_act 42 = .ok (.invokestatic 15, 3) := by decide +kernel
theorem dL_act_45 : decode cL_act 45 = .ok (.istore 5, 2) := by decide +kernel
theorem dL_act_47 : decode cL_act 47 = .ok (.iconst (-1), 1) := by decide +kernel
theorem dL_act_48 : decode cL_act 48 = .ok (.istore 7, 2) := by decide +kernel
theorem dL_act_50 : decode cL_act 50 = .ok (.iload_n 2, 1) := by decide +kernel
theorem dL_act_51 : decode cL_act 51 = .ok (.bipush 20, 2) := by decide +kernel
theorem dL_act_53 : decode cL_act 53 = .ok (.invokestatic 15, 3) := by decide +kernel
theorem dL_act_56 : decode cL_act 56 = .ok (.tableswitch 1128 0 14 #[76, 151, 151, 151, 294, 333, 397, 557, 658, 658, 658, 956, 956, 956, 956], 76) := by decide +kernel
theorem dL_act_132 : decode cL_act 132 = .ok (.aload_n 1, 1) := by decide +kernel
theorem dL_act_133 : decode cL_act 133 = .ok (.getfield 9, 3) := by decide +kernel
theorem dL_act_136 : decode cL_act 136 = .ok (.arraylength, 1) := by decide +kernel
theorem dL_act_137 : decode cL_act 137 = .ok (.bipush 6, 2) := by decide +kernel
theorem dL_act_139 : decode cL_act 139 = .ok (.if_icmp .ge 11, 3) := by decide +kernel
theorem dL_act_142 : decode cL_act 142 = .ok (.aload_n 1, 1) := by decide +kernel
theorem dL_act_143 : decode cL_act 143 = .ok (.getfield 9, 3) := by decide +kernel
theorem dL_act_146 : decode cL_act 146 = .ok (.arraylength, 1) := by decide +kernel
theorem dL_act_147 : decode cL_act 147 = .ok (.goto 4, 3) := by decide +kernel
theorem dL_act_150 : decode cL_act 150 = .ok (.iconst (-1), 1) := by decide +kernel
theorem dL_act_151 : decode cL_act 151 = .ok (.istore 7, 2) := by decide +kernel
theorem dL_act_153 : decode cL_act 153 = .ok (.iload 7, 2) := by decide +kernel
theorem dL_act_155 : decode cL_act 155 = .ok (.ifCond .lt 25, 3) := by decide +kernel
theorem dL_act_158 : decode cL_act 158 = .ok (.aload_n 1, 1) := by decide +kernel
theorem dL_act_159 : decode cL_act 159 = .ok (.aload_n 1, 1) := by decide +kernel
theorem dL_act_160 : decode cL_act 160 = .ok (.getfield 9, 3) := by decide +kernel
theorem dL_act_163 : decode cL_act 163 = .ok (.iconst 2, 1) := by decide +kernel
theorem dL_act_164 : decode cL_act 164 = .ok (.newarray .int, 2) := by decide +kernel
theorem dL_act_166 : decode cL_act 166 = .ok (.dup, 1) := by decide +kernel
theorem dL_act_167 : decode cL_act 167 = .ok (.iconst 0, 1) := by decide +kernel
theorem dL_act_168 : decode cL_act 168 = .ok (.iconst (-1), 1) := by decide +kernel
theorem dL_act_169 : decode cL_act 169 = .ok (.iastore, 1) := by decide +kernel
theorem dL_act_170 : decode cL_act 170 = .ok (.dup, 1) := by decide +kernel
theorem dL_act_171 : decode cL_act 171 = .ok (.iconst 1, 1) := by decide +kernel
theorem dL_act_172 : decode cL_act 172 = .ok (.iconst 0, 1) := by decide +kernel
theorem dL_act_173 : decode cL_act 173 = .ok (.iastore, 1) := by decide +kernel
theorem dL_act_174 : decode cL_act 174 = .ok (.invokestatic 24, 3) := by decide +kernel
theorem dL_act_177 : decode cL_act 177 = .ok (.putfield 9, 3) := by decide +kernel
theorem dL_act_180 : decode cL_act 180 = .ok (.aload_n 0, 1) := by decide +kernel
theorem dL_act_181 : decode cL_act 181 = .ok (.invokevirtual 28, 3) := by decide +kernel
theorem dL_act_184 : decode cL_act 184 = .ok (.istore 6, 2) := by decide +kernel
theorem dL_act_186 : decode cL_act 186 = .ok (.goto 8, 3) := by decide +kernel
theorem dL_act_189 : decode cL_act 189 = .ok (.astore 8, 2) := by decide +kernel
theorem dL_act_191 : decode cL_act 191 = .ok (.iconst (-1), 1) := by decide +kernel
theorem dL_act_192 : decode cL_act 192 = .ok (.istore 6, 2) := by decide +kernel
theorem dL_act_194 : decode cL_act 194 = .ok (.iload 6, 2) := by decide +kernel
theorem dL_act_196 : decode cL_act 196 = .ok (.iload 7, 2) := by decide +kernel
theorem dL_act_198 : decode cL_act 198 = .ok (.if_icmp .ne 7, 3) := by decide +kernel
theorem dL_act_201 : decode cL_act 201 = .ok (.iconst 1, 1) := by decide +kernel
theorem dL_act_202 : decode cL_act 202 = .ok (.goto 4, 3) := by decide +kernel
theorem dL_act_205 : decode cL_act 205 = .ok (.iconst 0, 1) := by decide +kernel
theorem dL_act_206 : decode cL_act 206 = .ok (.ireturn, 1) := by decide +kernel
theorem dL_act_207 : decode cL_act 207 = .ok (.aload_n 1, 1) := by decide +kernel
theorem dL_act_208 : decode cL_act 208 = .ok (.getfield 9, 3) := by decide +kernel
theorem dL_act_211 : decode cL_act 211 = .ok (.iload_n 3, 1) := by decide +kernel
theorem dL_act_212 : decode cL_act 212 = .ok (.aaload, 1) := by decide +kernel
theorem dL_act_213 : decode cL_act 213 = .ok (.iconst 1, 1) := by decide +kernel
theorem dL_act_214 : decode cL_act 214 = .ok (.iaload, 1) := by decide +kernel
theorem dL_act_215 : decode cL_act 215 = .ok (.ifCond .ne 105, 3) := by decide +kernel
theorem dL_act_218 : decode cL_act 218 = .ok (.aload_n 1, 1) := by decide +kernel
theorem dL_act_219 : decode cL_act 219 = .ok (.getfield 21, 3) := by decide +kernel
theorem dL_act_222 : decode cL_act 222 = .ok (.arraylength, 1) := by decide +kernel
theorem dL_act_223 : decode cL_act 223 = .ok (.newarray .int, 2) := by decide +kernel
theorem dL_act_225 : decode cL_act 225 = .ok (.astore 8, 2) := by decide +kernel
theorem dL_act_227 : decode cL_act 227 = .ok (.iconst 0, 1) := by decide +kernel
theorem dL_act_228 : decode cL_act 228 = .ok (.istore 9, 2) := by decide +kernel
theorem dL_act_230 : decode cL_act 230 = .ok (.iload 9, 2) := by decide +kernel
theorem dL_act_232 : decode cL_act 232 = .ok (.aload 8, 2) := by decide +kernel
theorem dL_act_234 : decode cL_act 234 = .ok (.arraylength, 1) := by decide +kernel
theorem dL_act_235 : decode cL_act 235 = .ok (.if_icmp .ge 28, 3) := by decide +kernel
theorem dL_act_238 : decode cL_act 238 = .ok (.aload 8, 2) := by decide +kernel
theorem dL_act_240 : decode cL_act 240 = .ok (.iload 9, 2) := by decide +kernel
theorem dL_act_242 : decode cL_act 242 = .ok (.aload_n 1, 1) := by decide +kernel
theorem dL_act_243 : decode cL_act 243 = .ok (.iload 9, 2) := by decide +kernel
theorem dL_act_245 : decode cL_act 245 = .ok (.invokevirtual 36, 3) := by decide +kernel
theorem dL_act_248 : decode cL_act 248 = .ok (.ifCond .eq 7, 3) := by decide +kernel
theorem dL_act_251 : decode cL_act 251 = .ok (.iconst 1, 1) := by decide +kernel
theorem dL_act_252 : decode cL_act 252 = .ok (.goto 4, 3) := by decide +kernel
theorem dL_act_255 : decode cL_act 255 = .ok (.iconst 0, 1) := by decide +kernel
theorem dL_act_256 : decode cL_act 256 = .ok (.iastore, 1) := by decide +kernel
theorem dL_act_257 : decode cL_act 257 = .ok (.iinc 9 1, 3) := by decide +kernel
theorem dL_act_260 : decode cL_act 260 = .ok (.goto (-30), 3) := by decide +kernel
theorem dL_act_263 : decode cL_act 263 = .ok (.aload_n 1, 1) := by decide +kernel
theorem dL_act_264 : decode cL_act 264 = .ok (.getfield 9, 3) := by decide +kernel
theorem dL_act_267 : decode cL_act 267 = .ok (.iload_n 3, 1) := by decide +kernel
theorem dL_act_268 : decode cL_act 268 = .ok (.aaload, 1) := by decide +kernel
theorem dL_act_269 : decode cL_act 269 = .ok (.iconst 0, 1) := by decide +kernel
theorem dL_act_270 : decode cL_act 270 = .ok (.iload 4, 2) := by decide +kernel
theorem dL_act_272 : decode cL_act 272 = .ok (.iastore, 1) := by decide +kernel
theorem dL_act_273 : decode cL_act 273 = .ok (.iconst 0, 1) := by decide +kernel
theorem dL_act_274 : decode cL_act 274 = .ok (.istore 7, 2) := by decide +kernel
theorem dL_act_276 : decode cL_act 276 = .ok (.iconst 0, 1) := by decide +kernel
theorem dL_act_277 : decode cL_act 277 = .ok (.istore 9, 2) := by decide +kernel
theorem dL_act_279 : decode cL_act 279 = .ok (.iload 9, 2) := by decide +kernel
theorem dL_act_281 : decode cL_act 281 = .ok (.aload 8, 2) := by decide +kernel
theorem dL_act_283 : decode cL_act 283 = .ok (.arraylength, 1) := by decide +kernel
theorem dL_act_284 : decode cL_act 284 = .ok (.if_icmp .ge 36, 3) := by decide +kernel
theorem dL_act_287 : decode cL_act 287 = .ok (.iload 7, 2) := by decide +kernel
theorem dL_act_289 : decode cL_act 289 = .ok (.aload_n 1, 1) := by decide +kernel
theorem dL_act_290 : decode cL_act 290 = .ok (.iload 9, 2) := by decide +kernel
theorem dL_act_292 : decode cL_act 292 = .ok (.invokevirtual 36, 3) := by decide +kernel
theorem dL_act_295 : decode cL_act 295 = .ok (.ifCond .eq 15, 3) := by decide +kernel
theorem dL_act_298 : decode cL_act 298 = .ok (.aload 8, 2) := by decide +kernel
theorem dL_act_300 : decode cL_act 300 = .ok (.iload 9, 2) := by decide +kernel
theorem dL_act_302 : decode cL_act 302 = .ok (.iaload, 1) := by decide +kernel
theorem dL_act_303 : decode cL_act 303 = .ok (.ifCond .ne 7, 3) := by decide +kernel
theorem dL_act_306 : decode cL_act 306 = .ok (.iconst 1, 1) := by decide +kernel
theorem dL_act_307 : decode cL_act 307 = .ok (.goto 4, 3) := by decide +kernel
theorem dL_act_310 : decode cL_act 310 = .ok (.iconst 0, 1) := by decide +kernel
theorem dL_act_311 : decode cL_act 311 = .ok (.iadd, 1) := by decide +kernel
theorem dL_act_312 : decode cL_act 312 = .ok (.istore 7, 2) := by decide +kernel
theorem dL_act_314 : decode cL_act 314 = .ok (.iinc 9 1, 3) := by decide +kernel
theorem dL_act_317 : decode cL_act 317 = .ok (.goto (-38), 3) := by decide +kernel
theorem dL_act_320 : decode cL_act 320 = .ok (.aload_n 0, 1) := by decide +kernel
theorem dL_act_321 : decode cL_act 321 = .ok (.iload_n 3, 1) := by decide +kernel
theorem dL_act_322 : decode cL_act 322 = .ok (.iload 4, 2) := by decide +kernel
theorem dL_act_324 : decode cL_act 324 = .ok (.invokevirtual 40, 3) := by decide +kernel
theorem dL_act_327 : decode cL_act 327 = .ok (.istore 6, 2) := by decide +kernel
theorem dL_act_329 : decode cL_act 329 = .ok (.goto 8, 3) := by decide +kernel
theorem dL_act_332 : decode cL_act 332 = .ok (.astore 8, 2) := by decide +kernel
theorem dL_act_334 : decode cL_act 334 = .ok (.iconst (-1), 1) := by decide +kernel
theorem dL_act_335 : decode cL_act 335 = .ok (.istore 6, 2) := by decide +kernel
theorem dL_act_337 : decode cL_act 337 = .ok (.iload 6, 2) := by decide +kernel
theorem dL_act_339 : decode cL_act 339 = .ok (.iload 7, 2) := by decide +kernel
theorem dL_act_341 : decode cL_act 341 = .ok (.if_icmp .ne 7, 3) := by decide +kernel
theorem dL_act_344 : decode cL_act 344 = .ok (.iconst 1, 1) := by decide +kernel
theorem dL_act_345 : decode cL_act 345 = .ok (.goto 4, 3) := by decide +kernel
theorem dL_act_348 : decode cL_act 348 = .ok (.iconst 0, 1) := by decide +kernel
theorem dL_act_349 : decode cL_act 349 = .ok (.ireturn, 1) := by decide +kernel
theorem dL_act_350 : decode cL_act 350 = .ok (.aload_n 1, 1) := by decide +kernel
theorem dL_act_351 : decode cL_act 351 = .ok (.getfield 43, 3) := by decide +kernel
theorem dL_act_354 : decode cL_act 354 = .ok (.istore 7, 2) := by decide +kernel
theorem dL_act_356 : decode cL_act 356 = .ok (.aload_n 1, 1) := by decide +kernel
theorem dL_act_357 : decode cL_act 357 = .ok (.iconst 2, 1) := by decide +kernel
theorem dL_act_358 : decode cL_act 358 = .ok (.iload_n 2, 1) := by decide +kernel
theorem dL_act_359 : decode cL_act 359 = .ok (.iconst 5, 1) := by decide +kernel
theorem dL_act_360 : decode cL_act 360 = .ok (.ishr, 1) := by decide +kernel
theorem dL_act_361 : decode cL_act 361 = .ok (.bipush 8, 2) := by decide +kernel
theorem dL_act_363 : decode cL_act 363 = .ok (.invokestatic 15, 3) := by decide +kernel
theorem dL_act_366 : decode cL_act 366 = .ok (.iadd, 1) := by decide +kernel
theorem dL_act_367 : decode cL_act 367 = .ok (.putfield 43, 3) := by decide +kernel
theorem dL_act_370 : decode cL_act 370 = .ok (.aload_n 0, 1) := by decide +kernel
theorem dL_act_371 : decode cL_act 371 = .ok (.aload_n 1, 1) := by decide +kernel
theorem dL_act_372 : decode cL_act 372 = .ok (.getfield 43, 3) := by decide +kernel
theorem dL_act_375 : decode cL_act 375 = .ok (.invokevirtual 47, 3) := by decide +kernel
theorem dL_act_378 : decode cL_act 378 = .ok (.iload 7, 2) := by decide +kernel
theorem dL_act_380 : decode cL_act 380 = .ok (.if_icmp .ne 7, 3) := by decide +kernel
theorem dL_act_383 : decode cL_act 383 = .ok (.iconst 1, 1) := by decide +kernel
theorem dL_act_384 : decode cL_act 384 = .ok (.goto 4, 3) := by decide +kernel
theorem dL_act_387 : decode cL_act 387 = .ok (.iconst 0, 1) := by decide +kernel
theorem dL_act_388 : decode cL_act 388 = .ok (.ireturn, 1) := by decide +kernel
theorem dL_act_389 : decode cL_act 389 = .ok (.iconst 1, 1) := by decide +kernel
theorem dL_act_390 : decode cL_act 390 = .ok (.iload_n 2, 1) := by decide +kernel
theorem dL_act_391 : decode cL_act 391 = .ok (.iconst 5, 1) := by decide +kernel
theorem dL_act_392 : decode cL_act 392 = .ok (.ishr, 1) := by decide +kernel
theorem dL_act_393 : decode cL_act 393 = .ok (.iload_n 2, 1) := by decide +kernel
theorem dL_act_394 : decode cL_act 394 = .ok (.bipush 7, 2) := by decide +kernel
theorem dL_act_396 : decode cL_act 396 = .ok (.ishr, 1) := by decide +kernel
theorem dL_act_397 : decode cL_act 397 = .ok (.iconst 2, 1) := by decide +kernel
theorem dL_act_398 : decode cL_act 398 = .ok (.invokestatic 15, 3) := by decide +kernel
theorem dL_act_401 : decode cL_act 401 = .ok (.ifCond .ne 7, 3) := by decide +kernel
theorem dL_act_404 : decode cL_act 404 = .ok (.iconst 3, 1) := by decide +kernel
theorem dL_act_405 : decode cL_act 405 = .ok (.goto 5, 3) := by decide +kernel
theorem dL_act_408 : decode cL_act 408 = .ok (.bipush 20, 2) := by decide +kernel
theorem dL_act_410 : decode cL_act 410 = .ok (.invokestatic 15, 3) := by decide +kernel
theorem dL_act_413 : decode cL_act 413 = .ok (.iadd, 1) := by decide +kernel
theorem dL_act_414 : decode cL_act 414 = .ok (.istore 8, 2) := by decide +kernel
theorem dL_act_416 : decode cL_act 416 = .ok (.aload_n 1, 1) := by decide +kernel
theorem dL_act_417 : decode cL_act 417 = .ok (.getfield 51, 3) := by decide +kernel
theorem dL_act_420 : decode cL_act 420 = .ok (.iload 4, 2) := by decide +kernel
theorem dL_act_422 : decode cL_act 422 = .ok (.iaload, 1) := by decide +kernel
theorem dL_act_423 : decode cL_act 423 = .ok (.istore 7, 2) := by decide +kernel
theorem dL_act_425 : decode cL_act 425 = .ok (.aload_n 1, 1) := by decide +kernel
theorem dL_act_426 : decode cL_act 426 = .ok (.getfield 51, 3) := by decide +kernel
theorem dL_act_429 : decode cL_act 429 = .ok (.iload 4, 2) := by decide +kernel
theorem dL_act_431 : decode cL_act 431 = .ok (.iload 8, 2) := by decide +kernel
theorem dL_act_433 : decode cL_act 433 = .ok (.iastore, 1) := by decide +kernel
theorem dL_act_434 : decode cL_act 434 = .ok (.aload_n 0, 1) := by decide +kernel
theorem dL_act_435 : decode cL_act 435 = .ok (.iload 4, 2) := by decide +kernel
theorem dL_act_437 : decode cL_act 437 = .ok (.iload 8, 2) := by decide +kernel
theorem dL_act_439 : decode cL_act 439 = .ok (.invokevirtual 55, 3) := by decide +kernel
theorem dL_act_442 : decode cL_act 442 = .ok (.iload 7, 2) := by decide +kernel
theorem dL_act_444 : decode cL_act 444 = .ok (.if_icmp .ne 7, 3) := by decide +kernel
theorem dL_act_447 : decode cL_act 447 = .ok (.iconst 1, 1) := by decide +kernel
theorem dL_act_448 : decode cL_act 448 = .ok (.goto 4, 3) := by decide +kernel
theorem dL_act_451 : decode cL_act 451 = .ok (.iconst 0, 1) := by decide +kernel
theorem dL_act_452 : decode cL_act 452 = .ok (.ireturn, 1) := by decide +kernel
theorem dL_act_453 : decode cL_act 453 = .ok (.aload_n 1, 1) := by decide +kernel
theorem dL_act_454 : decode cL_act 454 = .ok (.getfield 9, 3) := by decide +kernel
theorem dL_act_457 : decode cL_act 457 = .ok (.iload_n 3, 1) := by decide +kernel
theorem dL_act_458 : decode cL_act 458 = .ok (.aaload, 1) := by decide +kernel
theorem dL_act_459 : decode cL_act 459 = .ok (.iconst 1, 1) := by decide +kernel
theorem dL_act_460 : decode cL_act 460 = .ok (.iaload, 1) := by decide +kernel
theorem dL_act_461 : decode cL_act 461 = .ok (.ifCond .ne 111, 3) := by decide +kernel
theorem dL_act_464 : decode cL_act 464 = .ok (.iload_n 2, 1) := by decide +kernel
theorem dL_act_465 : decode cL_act 465 = .ok (.bipush 7, 2) := by decide +kernel
theorem dL_act_467 : decode cL_act 467 = .ok (.ishr, 1) := by decide +kernel
theorem dL_act_468 : decode cL_act 468 = .ok (.iconst 2, 1) := by decide +kernel
theorem dL_act_469 : decode cL_act 469 = .ok (.invokestatic 15, 3) := by decide +kernel
theorem dL_act_472 : decode cL_act 472 = .ok (.ifCond .ne 100, 3) := by decide +kernel
theorem dL_act_475 : decode cL_act 475 = .ok (.iconst 0, 1) := by decide +kernel
theorem dL_act_476 : decode cL_act 476 = .ok (.istore 7, 2) := by decide +kernel
theorem dL_act_478 : decode cL_act 478 = .ok (.iconst 0, 1) := by decide +kernel
theorem dL_act_479 : decode cL_act 479 = .ok (.istore 8, 2) := by decide +kernel
theorem dL_act_481 : decode cL_act 481 = .ok (.iload 8, 2) := by decide +kernel
theorem dL_act_483 : decode cL_act 483 = .ok (.aload_n 1, 1) := by decide +kernel
theorem dL_act_484 : decode cL_act 484 = .ok (.getfield 21, 3) := by decide +kernel
theorem dL_act_487 : decode cL_act 487 = .ok (.arraylength, 1) := by decide +kernel
theorem dL_act_488 : decode cL_act 488 = .ok (.if_icmp .ge 72, 3) := by decide +kernel
theorem dL_act_491 : decode cL_act 491 = .ok (.aload_n 1, 1) := by decide +kernel
theorem dL_act_492 : decode cL_act 492 = .ok (.getfield 21, 3) := by decide +kernel
theorem dL_act_495 : decode cL_act 495 = .ok (.iload 8, 2) := by decide +kernel
theorem dL_act_497 : decode cL_act 497 = .ok (.aaload, 1) := by decide +kernel
theorem dL_act_498 : decode cL_act 498 = .ok (.astore 9, 2) := by decide +kernel
theorem dL_act_500 : decode cL_act 500 = .ok (.aload 9, 2) := by decide +kernel
theorem dL_act_502 : decode cL_act 502 = .ok (.iconst 0, 1) := by decide +kernel
theorem dL_act_503 : decode cL_act 503 = .ok (.iaload, 1) := by decide +kernel
theorem dL_act_504 : decode cL_act 504 = .ok (.iload_n 3, 1) := by decide +kernel
theorem dL_act_505 : decode cL_act 505 = .ok (.if_icmp .eq 6, 3) := by decide +kernel
theorem dL_act_508 : decode cL_act 508 = .ok (.goto 46, 3) := by decide +kernel
theorem dL_act_511 : decode cL_act 511 = .ok (.aload 9, 2) := by decide +kernel
theorem dL_act_513 : decode cL_act 513 = .ok (.iconst 3, 1) := by decide +kernel
theorem dL_act_514 : decode cL_act 514 = .ok (.iaload, 1) := by decide +kernel
theorem dL_act_515 : decode cL_act 515 = .ok (.iconst 2, 1) := by decide +kernel
theorem dL_act_516 : decode cL_act 516 = .ok (.if_icmp .ne 32, 3) := by decide +kernel
theorem dL_act_519 : decode cL_act 519 = .ok (.aload 9, 2) := by decide +kernel
theorem dL_act_521 : decode cL_act 521 = .ok (.iconst 4, 1) := by decide +kernel
theorem dL_act_522 : decode cL_act 522 = .ok (.iaload, 1) := by decide +kernel
theorem dL_act_523 : decode cL_act 523 = .ok (.aload_n 1, 1) := by decide +kernel
theorem dL_act_524 : decode cL_act 524 = .ok (.getfield 9, 3) := by decide +kernel
theorem dL_act_527 : decode cL_act 527 = .ok (.iload_n 3, 1) := by decide +kernel
theorem dL_act_528 : decode cL_act 528 = .ok (.aaload, 1) := by decide +kernel
theorem dL_act_529 : decode cL_act 529 = .ok (.iconst 0, 1) := by decide +kernel
theorem dL_act_530 : decode cL_act 530 = .ok (.iaload, 1) := by decide +kernel
theorem dL_act_531 : decode cL_act 531 = .ok (.if_icmp .ne 17, 3) := by decide +kernel
theorem dL_act_534 : decode cL_act 534 = .ok (.aload_n 1, 1) := by decide +kernel
theorem dL_act_535 : decode cL_act 535 = .ok (.iload 8, 2) := by decide +kernel
theorem dL_act_537 : decode cL_act 537 = .ok (.iconst 5, 1) := by decide +kernel
theorem dL_act_538 : decode cL_act 538 = .ok (.iconst (-1), 1) := by decide +kernel
theorem dL_act_539 : decode cL_act 539 = .ok (.invokevirtual 58, 3) := by decide +kernel
theorem dL_act_542 : decode cL_act 542 = .ok (.iinc 7 1, 3) := by decide +kernel
theorem dL_act_545 : decode cL_act 545 = .ok (.goto 9, 3) := by decide +kernel
theorem dL_act_548 : decode cL_act 548 = .ok (.aload 9, 2) := by decide +kernel
theorem dL_act_550 : decode cL_act 550 = .ok (.bipush 7, 2) := by decide +kernel
theorem dL_act_552 : decode cL_act 552 = .ok (.iconst 1, 1) := by decide +kernel
theorem dL_act_553 : decode cL_act 553 = .ok (.iastore, 1) := by decide +kernel
theorem dL_act_554 : decode cL_act 554 = .ok (.iinc 8 1, 3) := by decide +kernel
theorem dL_act_557 : decode cL_act 557 = .ok (.goto (-76), 3) := by decide +kernel
theorem dL_act_560 : decode cL_act 560 = .ok (.aload_n 1, 1) := by decide +kernel
theorem dL_act_561 : decode cL_act 561 = .ok (.getfield 9, 3) := by decide +kernel
theorem dL_act_564 : decode cL_act 564 = .ok (.iload_n 3, 1) := by decide +kernel
theorem dL_act_565 : decode cL_act 565 = .ok (.aaload, 1) := by decide +kernel
theorem dL_act_566 : decode cL_act 566 = .ok (.iconst 1, 1) := by decide +kernel
theorem dL_act_567 : decode cL_act 567 = .ok (.iconst 1, 1) := by decide +kernel
theorem dL_act_568 : decode cL_act 568 = .ok (.iastore, 1) := by decide +kernel
theorem dL_act_569 : decode cL_act 569 = .ok (.goto 16, 3) := by decide +kernel
theorem dL_act_572 : decode cL_act 572 = .ok (.aload_n 1, 1) := by decide +kernel
theorem dL_act_573 : decode cL_act 573 = .ok (.getfield 9, 3) := by decide +kernel
theorem dL_act_576 : decode cL_act 576 = .ok (.iload_n 3, 1) := by decide +kernel
theorem dL_act_577 : decode cL_act 577 = .ok (.aaload, 1) := by decide +kernel
theorem dL_act_578 : decode cL_act 578 = .ok (.iconst 1, 1) := by decide +kernel
theorem dL_act_579 : decode cL_act 579 = .ok (.iaload, 1) := by decide +kernel
theorem dL_act_580 : decode cL_act 580 = .ok (.ifCond .ne 5, 3) := by decide +kernel
theorem dL_act_583 : decode cL_act 583 = .ok (.iconst 1, 1) := by decide +kernel
theorem dL_act_584 : decode cL_act 584 = .ok (.ireturn, 1) := by decide +kernel
theorem dL_act_585 : decode cL_act 585 = .ok (.aload_n 0, 1) := by decide +kernel
theorem dL_act_586 : decode cL_act 586 = .ok (.iload_n 3, 1) := by decide +kernel
theorem dL_act_587 : decode cL_act 587 = .ok (.invokevirtual 62, 3) := by decide +kernel
theorem dL_act_590 : decode cL_act 590 = .ok (.istore 6, 2) := by decide +kernel
theorem dL_act_592 : decode cL_act 592 = .ok (.goto 8, 3) := by decide +kernel
theorem dL_act_595 : decode cL_act 595 = .ok (.astore 8, 2) := by decide +kernel
theorem dL_act_597 : decode cL_act 597 = .ok (.iconst (-1), 1) := by decide +kernel
theorem dL_act_598 : decode cL_act 598 = .ok (.istore 6, 2) := by decide +kernel
theorem dL_act_600 : decode cL_act 600 = .ok (.iload 6, 2) := by decide +kernel
theorem dL_act_602 : decode cL_act 602 = .ok (.iload 7, 2) := by decide +kernel
theorem dL_act_604 : decode cL_act 604 = .ok (.if_icmp .ne 7, 3) := by decide +kernel
theorem dL_act_607 : decode cL_act 607 = .ok (.iconst 1, 1) := by decide +kernel
theorem dL_act_608 : decode cL_act 608 = .ok (.goto 4, 3) := by decide +kernel
theorem dL_act_611 : decode cL_act 611 = .ok (.iconst 0, 1) := by decide +kernel
theorem dL_act_612 : decode cL_act 612 = .ok (.ireturn, 1) := by decide +kernel
theorem dL_act_613 : decode cL_act 613 = .ok (.iconst 0, 1) := by decide +kernel
theorem dL_act_614 : decode cL_act 614 = .ok (.istore 7, 2) := by decide +kernel
theorem dL_act_616 : decode cL_act 616 = .ok (.iconst 0, 1) := by decide +kernel
theorem dL_act_617 : decode cL_act 617 = .ok (.istore 8, 2) := by decide +kernel
theorem dL_act_619 : decode cL_act 619 = .ok (.iload 8, 2) := by decide +kernel
theorem dL_act_621 : decode cL_act 621 = .ok (.aload_n 1, 1) := by decide +kernel
theorem dL_act_622 : decode cL_act 622 = .ok (.getfield 21, 3) := by decide +kernel
theorem dL_act_625 : decode cL_act 625 = .ok (.arraylength, 1) := by decide +kernel
theorem dL_act_626 : decode cL_act 626 = .ok (.if_icmp .ge 71, 3) := by decide +kernel
theorem dL_act_629 : decode cL_act 629 = .ok (.aload_n 1, 1) := by decide +kernel
theorem dL_act_630 : decode cL_act 630 = .ok (.iload 8, 2) := by decide +kernel
theorem dL_act_632 : decode cL_act 632 = .ok (.invokevirtual 36, 3) := by decide +kernel
theorem dL_act_635 : decode cL_act 635 = .ok (.ifCond .eq 56, 3) := by decide +kernel
theorem dL_act_638 : decode cL_act 638 = .ok (.aload_n 1, 1) := by decide +kernel
theorem dL_act_639 : decode cL_act 639 = .ok (.getfield 21, 3) := by decide +kernel
theorem dL_act_642 : decode cL_act 642 = .ok (.iload 8, 2) := by decide +kernel
theorem dL_act_644 : decode cL_act 644 = .ok (.aaload, 1) := by decide +kernel
theorem dL_act_645 : decode cL_act 645 = .ok (.iconst 4, 1) := by decide +kernel
theorem dL_act_646 : decode cL_act 646 = .ok (.iaload, 1) := by decide +kernel
theorem dL_act_647 : decode cL_act 647 = .ok (.iload 4, 2) := by decide +kernel
theorem dL_act_649 : decode cL_act 649 = .ok (.if_icmp .eq 6, 3) := by decide +kernel
theorem dL_act_652 : decode cL_act 652 = .ok (.goto 39, 3) := by decide +kernel
theorem dL_act_655 : decode cL_act 655 = .ok (.aload_n 1, 1) := by decide +kernel
theorem dL_act_656 : decode cL_act 656 = .ok (.iload 8, 2) := by decide +kernel
theorem dL_act_658 : decode cL_act 658 = .ok (.iconst 3, 1) := by decide +kernel
theorem dL_act_659 : decode cL_act 659 = .ok (.iconst (-1), 1) := by decide +kernel
theorem dL_act_660 : decode cL_act 660 = .ok (.invokevirtual 58, 3) := by decide +kernel
theorem dL_act_663 : decode cL_act 663 = .ok (.aload_n 1, 1) := by decide +kernel
theorem dL_act_664 : decode cL_act 664 = .ok (.getfield 21, 3) := by decide +kernel
theorem dL_act_667 : decode cL_act 667 = .ok (.iload 8, 2) := by decide +kernel
theorem dL_act_669 : decode cL_act 669 = .ok (.aaload, 1) := by decide +kernel
theorem dL_act_670 : decode cL_act 670 = .ok (.bipush 7, 2) := by decide +kernel
theorem dL_act_672 : decode cL_act 672 = .ok (.iaload, 1) := by decide +kernel
theorem dL_act_673 : decode cL_act 673 = .ok (.iconst 1, 1) := by decide +kernel
theorem dL_act_674 : decode cL_act 674 = .ok (.if_icmp .ne 14, 3) := by decide +kernel
theorem dL_act_677 : decode cL_act 677 = .ok (.aload_n 1, 1) := by decide +kernel
theorem dL_act_678 : decode cL_act 678 = .ok (.getfield 21, 3) := by decide +kernel
theorem dL_act_681 : decode cL_act 681 = .ok (.iload 8, 2) := by decide +kernel
theorem dL_act_683 : decode cL_act 683 = .ok (.aaload, 1) := by decide +kernel
theorem dL_act_684 : decode cL_act 684 = .ok (.bipush 7, 2) := by decide +kernel
theorem dL_act_686 : decode cL_act 686 = .ok (.iconst 2, 1) := by decide +kernel
theorem dL_act_687 : decode cL_act 687 = .ok (.iastore, 1) := by decide +kernel
theorem dL_act_688 : decode cL_act 688 = .ok (.iinc 7 1, 3) := by decide +kernel
theorem dL_act_691 : decode cL_act 691 = .ok (.iinc 8 1, 3) := by decide +kernel
theorem dL_act_694 : decode cL_act 694 = .ok (.goto (-75), 3) := by decide +kernel
theorem dL_act_697 : decode cL_act 697 = .ok (.aload_n 0, 1) := by decide +kernel
theorem dL_act_698 : decode cL_act 698 = .ok (.iload 4, 2) := by decide +kernel
theorem dL_act_700 : decode cL_act 700 = .ok (.invokevirtual 65, 3) := by decide +kernel
theorem dL_act_703 : decode cL_act 703 = .ok (.iload 7, 2) := by decide +kernel
theorem dL_act_705 : decode cL_act 705 = .ok (.if_icmp .ne 7, 3) := by decide +kernel
theorem dL_act_708 : decode cL_act 708 = .ok (.iconst 1, 1) := by decide +kernel
theorem dL_act_709 : decode cL_act 709 = .ok (.goto 4, 3) := by decide +kernel
theorem dL_act_712 : decode cL_act 712 = .ok (.iconst 0, 1) := by decide +kernel
theorem dL_act_713 : decode cL_act 713 = .ok (.ireturn, 1) := by decide +kernel
theorem dL_act_714 : decode cL_act 714 = .ok (.iload 5, 2) := by decide +kernel
theorem dL_act_716 : decode cL_act 716 = .ok (.ifCond .ge 5, 3) := by decide +kernel
theorem dL_act_719 : decode cL_act 719 = .ok (.iconst 1, 1) := by decide +kernel
theorem dL_act_720 : decode cL_act 720 = .ok (.ireturn, 1) := by decide +kernel
theorem dL_act_721 : decode cL_act 721 = .ok (.iconst 0, 1) := by decide +kernel
theorem dL_act_722 : decode cL_act 722 = .ok (.istore 8, 2) := by decide +kernel
theorem dL_act_724 : decode cL_act 724 = .ok (.iload 8, 2) := by decide +kernel
theorem dL_act_726 : decode cL_act 726 = .ok (.aload_n 1, 1) := by decide +kernel
theorem dL_act_727 : decode cL_act 727 = .ok (.getfield 21, 3) := by decide +kernel
theorem dL_act_730 : decode cL_act 730 = .ok (.arraylength, 1) := by decide +kernel
theorem dL_act_731 : decode cL_act 731 = .ok (.if_icmp .ge 50, 3) := by decide +kernel
theorem dL_act_734 : decode cL_act 734 = .ok (.iload_n 2, 1) := by decide +kernel
theorem dL_act_735 : decode cL_act 735 = .ok (.bipush 7, 2) := by decide +kernel
theorem dL_act_737 : decode cL_act 737 = .ok (.ishr, 1) := by decide +kernel
theorem dL_act_738 : decode cL_act 738 = .ok (.iconst 5, 1) := by decide +kernel
theorem dL_act_739 : decode cL_act 739 = .ok (.invokestatic 15, 3) := by decide +kernel
theorem dL_act_742 : decode cL_act 742 = .ok (.ifCond .le 39, 3) := by decide +kernel
theorem dL_act_745 : decode cL_act 745 = .ok (.aload_n 1, 1) := by decide +kernel
theorem dL_act_746 : decode cL_act 746 = .ok (.getfield 21, 3) := by decide +kernel
theorem dL_act_749 : decode cL_act 749 = .ok (.iload 8, 2) := by decide +kernel
theorem dL_act_751 : decode cL_act 751 = .ok (.aaload, 1) := by decide +kernel
theorem dL_act_752 : decode cL_act 752 = .ok (.iconst 3, 1) := by decide +kernel
theorem dL_act_753 : decode cL_act 753 = .ok (.iaload, 1) := by decide +kernel
theorem dL_act_754 : decode cL_act 754 = .ok (.iconst 3, 1) := by decide +kernel
theorem dL_act_755 : decode cL_act 755 = .ok (.if_icmp .eq 16, 3) := by decide +kernel
theorem dL_act_758 : decode cL_act 758 = .ok (.aload_n 1, 1) := by decide +kernel
theorem dL_act_759 : decode cL_act 759 = .ok (.getfield 21, 3) := by decide +kernel
theorem dL_act_762 : decode cL_act 762 = .ok (.iload 8, 2) := by decide +kernel
theorem dL_act_764 : decode cL_act 764 = .ok (.aaload, 1) := by decide +kernel
theorem dL_act_765 : decode cL_act 765 = .ok (.iconst 3, 1) := by decide +kernel
theorem dL_act_766 : decode cL_act 766 = .ok (.iaload, 1) := by decide +kernel
theorem dL_act_767 : decode cL_act 767 = .ok (.iconst 4, 1) := by decide +kernel
theorem dL_act_768 : decode cL_act 768 = .ok (.if_icmp .ne 7, 3) := by decide +kernel
theorem dL_act_771 : decode cL_act 771 = .ok (.iload 8, 2) := by decide +kernel
theorem dL_act_773 : decode cL_act 773 = .ok (.istore 5, 2) := by decide +kernel
theorem dL_act_775 : decode cL_act 775 = .ok (.iinc 8 1, 3) := by decide +kernel
theorem dL_act_778 : decode cL_act 778 = .ok (.goto (-54), 3) := by decide +kernel
theorem dL_act_781 : decode cL_act 781 = .ok (.aload_n 1, 1) := by decide +kernel
theorem dL_act_782 : decode cL_act 782 = .ok (.getfield 21, 3) := by decide +kernel
theorem dL_act_785 : decode cL_act 785 = .ok (.iload 5, 2) := by decide +kernel
theorem dL_act_787 : decode cL_act 787 = .ok (.aaload, 1) := by decide +kernel
theorem dL_act_788 : decode cL_act 788 = .ok (.astore 8, 2) := by decide +kernel
theorem dL_act_790 : decode cL_act 790 = .ok (.aload 8, 2) := by decide +kernel
theorem dL_act_792 : decode cL_act 792 = .ok (.iconst 3, 1) := by decide +kernel
theorem dL_act_793 : decode cL_act 793 = .ok (.iaload, 1) := by decide +kernel
theorem dL_act_794 : decode cL_act 794 = .ok (.iconst 3, 1) := by decide +kernel
theorem dL_act_795 : decode cL_act 795 = .ok (.if_icmp .eq 11, 3) := by decide +kernel
theorem dL_act_798 : decode cL_act 798 = .ok (.aload 8, 2) := by decide +kernel
theorem dL_act_800 : decode cL_act 800 = .ok (.iconst 3, 1) := by decide +kernel
theorem dL_act_801 : decode cL_act 801 = .ok (.iaload, 1) := by decide +kernel
theorem dL_act_802 : decode cL_act 802 = .ok (.iconst 4, 1) := by decide +kernel
theorem dL_act_803 : decode cL_act 803 = .ok (.if_icmp .ne 7, 3) := by decide +kernel
theorem dL_act_806 : decode cL_act 806 = .ok (.iconst 1, 1) := by decide +kernel
theorem dL_act_807 : decode cL_act 807 = .ok (.goto 4, 3) := by decide +kernel
theorem dL_act_810 : decode cL_act 810 = .ok (.iconst 0, 1) := by decide +kernel
theorem dL_act_811 : decode cL_act 811 = .ok (.istore 9, 2) := by decide +kernel
theorem dL_act_813 : decode cL_act 813 = .ok (.aload_n 1, 1) := by decide +kernel
theorem dL_act_814 : decode cL_act 814 = .ok (.getfield 9, 3) := by decide +kernel
theorem dL_act_817 : decode cL_act 817 = .ok (.aload 8, 2) := by decide +kernel
theorem dL_act_819 : decode cL_act 819 = .ok (.iconst 0, 1) := by decide +kernel
theorem dL_act_820 : decode cL_act 820 = .ok (.iaload, 1) := by decide +kernel
theorem dL_act_821 : decode cL_act 821 = .ok (.aaload, 1) := by decide +kernel
theorem dL_act_822 : decode cL_act 822 = .ok (.astore 10, 2) := by decide +kernel
theorem dL_act_824 : decode cL_act 824 = .ok (.aload 10, 2) := by decide +kernel
theorem dL_act_826 : decode cL_act 826 = .ok (.iconst 1, 1) := by decide +kernel
theorem dL_act_827 : decode cL_act 827 = .ok (.iaload, 1) := by decide +kernel
theorem dL_act_828 : decode cL_act 828 = .ok (.ifCond .ne 93, 3) := by decide +kernel
theorem dL_act_831 : decode cL_act 831 = .ok (.iload 9, 2) := by decide +kernel
theorem dL_act_833 : decode cL_act 833 = .ok (.ifCond .eq 34, 3) := by decide +kernel
theorem dL_act_836 : decode cL_act 836 = .ok (.aload 10, 2) := by decide +kernel
theorem dL_act_838 : decode cL_act 838 = .ok (.iconst 0, 1) := by decide +kernel
theorem dL_act_839 : decode cL_act 839 = .ok (.iaload, 1) := by decide +kernel
theorem dL_act_840 : decode cL_act 840 = .ok (.ifCond .lt 27, 3) := by decide +kernel
theorem dL_act_843 : decode cL_act 843 = .ok (.aload_n 1, 1) := by decide +kernel
theorem dL_act_844 : decode cL_act 844 = .ok (.aload 10, 2) := by decide +kernel
theorem dL_act_846 : decode cL_act 846 = .ok (.iconst 0, 1) := by decide +kernel
theorem dL_act_847 : decode cL_act 847 = .ok (.iaload, 1) := by decide +kernel
theorem dL_act_848 : decode cL_act 848 = .ok (.invokevirtual 68, 3) := by decide +kernel
theorem dL_act_851 : decode cL_act 851 = .ok (.aload_n 1, 1) := by decide +kernel
theorem dL_act_852 : decode cL_act 852 = .ok (.getfield 51, 3) := by decide +kernel
theorem dL_act_855 : decode cL_act 855 = .ok (.aload 10, 2) := by decide +kernel
theorem dL_act_857 : decode cL_act 857 = .ok (.iconst 0, 1) := by decide +kernel
theorem dL_act_858 : decode cL_act 858 = .ok (.iaload, 1) := by decide +kernel
theorem dL_act_859 : decode cL_act 859 = .ok (.iaload, 1) := by decide +kernel
theorem dL_act_860 : decode cL_act 860 = .ok (.if_icmp .ge 7, 3) := by decide +kernel
theorem dL_act_863 : decode cL_act 863 = .ok (.iconst 1, 1) := by decide +kernel
theorem dL_act_864 : decode cL_act 864 = .ok (.goto 4, 3) := by decide +kernel
theorem dL_act_867 : decode cL_act 867 = .ok (.iconst 0, 1) := by decide +kernel
theorem dL_act_868 : decode cL_act 868 = .ok (.istore 11, 2) := by decide +kernel
theorem dL_act_870 : decode cL_act 870 = .ok (.iload 11, 2) := by decide +kernel
theorem dL_act_872 : decode cL_act 872 = .ok (.ifCond .eq 20, 3) := by decide +kernel
theorem dL_act_875 : decode cL_act 875 = .ok (.aload_n 1, 1) := by decide +kernel
theorem dL_act_876 : decode cL_act 876 = .ok (.iload 5, 2) := by decide +kernel
theorem dL_act_878 : decode cL_act 878 = .ok (.iconst 2, 1) := by decide +kernel
theorem dL_act_879 : decode cL_act 879 = .ok (.aload 10, 2) := by decide +kernel
theorem dL_act_881 : decode cL_act 881 = .ok (.iconst 0, 1) := by decide +kernel
theorem dL_act_882 : decode cL_act 882 = .ok (.iaload, 1) := by decide +kernel
theorem dL_act_883 : decode cL_act 883 = .ok (.invokevirtual 58, 3) := by decide +kernel
theorem dL_act_886 : decode cL_act 886 = .ok (.aload 10, 2) := by decide +kernel
theorem dL_act_888 : decode cL_act 888 = .ok (.iconst 0, 1) := by decide +kernel
theorem dL_act_889 : decode cL_act 889 = .ok (.iaload, 1) := by decide +kernel
theorem dL_act_890 : decode cL_act 890 = .ok (.istore 7, 2) := by decide +kernel
theorem dL_act_892 : decode cL_act 892 = .ok (.aload_n 0, 1) := by decide +kernel
theorem dL_act_893 : decode cL_act 893 = .ok (.iload 5, 2) := by decide +kernel
theorem dL_act_895 : decode cL_act 895 = .ok (.invokevirtual 71, 3) := by decide +kernel
theorem dL_act_898 : decode cL_act 898 = .ok (.istore 6, 2) := by decide +kernel
theorem dL_act_900 : decode cL_act 900 = .ok (.goto 8, 3) := by decide +kernel
theorem dL_act_903 : decode cL_act 903 = .ok (.astore 12, 2) := by decide +kernel
theorem dL_act_905 : decode cL_act 905 = .ok (.iconst (-1), 1) := by decide +kernel
theorem dL_act_906 : decode cL_act 906 = .ok (.istore 6, 2) := by decide +kernel
theorem dL_act_908 : decode cL_act 908 = .ok (.iload 6, 2) := by decide +kernel
theorem dL_act_910 : decode cL_act 910 = .ok (.iload 7, 2) := by decide +kernel
theorem dL_act_912 : decode cL_act 912 = .ok (.if_icmp .ne 7, 3) := by decide +kernel
theorem dL_act_915 : decode cL_act 915 = .ok (.iconst 1, 1) := by decide +kernel
theorem dL_act_916 : decode cL_act 916 = .ok (.goto 4, 3) := by decide +kernel
theorem dL_act_919 : decode cL_act 919 = .ok (.iconst 0, 1) := by decide +kernel
theorem dL_act_920 : decode cL_act 920 = .ok (.ireturn, 1) := by decide +kernel
theorem dL_act_921 : decode cL_act 921 = .ok (.iload 9, 2) := by decide +kernel
theorem dL_act_923 : decode cL_act 923 = .ok (.ifCond .eq 18, 3) := by decide +kernel
theorem dL_act_926 : decode cL_act 926 = .ok (.aload_n 1, 1) := by decide +kernel
theorem dL_act_927 : decode cL_act 927 = .ok (.getfield 9, 3) := by decide +kernel
theorem dL_act_930 : decode cL_act 930 = .ok (.iload_n 3, 1) := by decide +kernel
theorem dL_act_931 : decode cL_act 931 = .ok (.aaload, 1) := by decide +kernel
theorem dL_act_932 : decode cL_act 932 = .ok (.iconst 1, 1) := by decide +kernel
theorem dL_act_933 : decode cL_act 933 = .ok (.iaload, 1) := by decide +kernel
theorem dL_act_934 : decode cL_act 934 = .ok (.ifCond .ne 7, 3) := by decide +kernel
theorem dL_act_937 : decode cL_act 937 = .ok (.iconst 1, 1) := by decide +kernel
theorem dL_act_938 : decode cL_act 938 = .ok (.goto 4, 3) := by decide +kernel
theorem dL_act_941 : decode cL_act 941 = .ok (.iconst 0, 1) := by decide +kernel
theorem dL_act_942 : decode cL_act 942 = .ok (.istore 11, 2) := by decide +kernel
theorem dL_act_944 : decode cL_act 944 = .ok (.iload 11, 2) := by decide +kernel
theorem dL_act_946 : decode cL_act 946 = .ok (.ifCond .eq 36, 3) := by decide +kernel
theorem dL_act_949 : decode cL_act 949 = .ok (.aload 8, 2) := by decide +kernel
theorem dL_act_951 : decode cL_act 951 = .ok (.iconst 0, 1) := by decide +kernel
theorem dL_act_952 : decode cL_act 952 = .ok (.iload_n 3, 1) := by decide +kernel
theorem dL_act_953 : decode cL_act 953 = .ok (.iastore, 1) := by decide +kernel
theorem dL_act_954 : decode cL_act 954 = .ok (.aload_n 1, 1) := by decide +kernel
theorem dL_act_955 : decode cL_act 955 = .ok (.iload 5, 2) := by decide +kernel
theorem dL_act_957 : decode cL_act 957 = .ok (.invokevirtual 74, 3) := by decide +kernel
theorem dL_act_960 : decode cL_act 960 = .ok (.aload 8, 2) := by decide +kernel
theorem dL_act_962 : decode cL_act 962 = .ok (.bipush 7, 2) := by decide +kernel
theorem dL_act_964 : decode cL_act 964 = .ok (.iaload, 1) := by decide +kernel
theorem dL_act_965 : decode cL_act 965 = .ok (.iconst 1, 1) := by decide +kernel
theorem dL_act_966 : decode cL_act 966 = .ok (.if_icmp .ne 9, 3) := by decide +kernel
theorem dL_act_969 : decode cL_act 969 = .ok (.aload 8, 2) := by decide +kernel
theorem dL_act_971 : decode cL_act 971 = .ok (.bipush 7, 2) := by decide +kernel
theorem dL_act_973 : decode cL_act 973 = .ok (.iconst 2, 1) := by decide +kernel
theorem dL_act_974 : decode cL_act 974 = .ok (.iastore, 1) := by decide +kernel
theorem dL_act_975 : decode cL_act 975 = .ok (.aload_n 1, 1) := by decide +kernel
theorem dL_act_976 : decode cL_act 976 = .ok (.getfield 78, 3) := by decide +kernel
theorem dL_act_979 : decode cL_act 979 = .ok (.arraylength, 1) := by decide +kernel
theorem dL_act_980 : decode cL_act 980 = .ok (.istore 7, 2) := by decide +kernel
theorem dL_act_982 : decode cL_act 982 = .ok (.aload_n 0, 1) := by decide +kernel
theorem dL_act_983 : decode cL_act 983 = .ok (.iload 5, 2) := by decide +kernel
theorem dL_act_985 : decode cL_act 985 = .ok (.iload_n 3, 1) := by decide +kernel
theorem dL_act_986 : decode cL_act 986 = .ok (.invokevirtual 81, 3) := by decide +kernel
theorem dL_act_989 : decode cL_act 989 = .ok (.istore 6, 2) := by decide +kernel
theorem dL_act_991 : decode cL_act 991 = .ok (.goto 8, 3) := by decide +kernel
theorem dL_act_994 : decode cL_act 994 = .ok (.astore 12, 2) := by decide +kernel
theorem dL_act_996 : decode cL_act 996 = .ok (.iconst (-1), 1) := by decide +kernel
theorem dL_act_997 : decode cL_act 997 = .ok (.istore 6, 2) := by decide +kernel
theorem dL_act_999 : decode cL_act 999 = .ok (.iload 6, 2) := by decide +kernel
theorem dL_act_1001 : decode cL_act 1001 = .ok (.iload 7, 2) := by decide +kernel
theorem dL_act_1003 : decode cL_act 1003 = .ok (.if_icmp .ne 7, 3) := by decide +kernel
theorem dL_act_1006 : decode cL_act 1006 = .ok (.iconst 1, 1) := by decide +kernel
theorem dL_act_1007 : decode cL_act 1007 = .ok (.goto 4, 3) := by decide +kernel
theorem dL_act_1010 : decode cL_act 1010 = .ok (.iconst 0, 1) := by decide +kernel
theorem dL_act_1011 : decode cL_act 1011 = .ok (.ireturn, 1) := by decide +kernel
theorem dL_act_1012 : decode cL_act 1012 = .ok (.iconst 1, 1) := by decide +kernel
theorem dL_act_1013 : decode cL_act 1013 = .ok (.iload_n 2, 1) := by decide +kernel
theorem dL_act_1014 : decode cL_act 1014 = .ok (.bipush 7, 2) := by decide +kernel
theorem dL_act_1016 : decode cL_act 1016 = .ok (.ishr, 1) := by decide +kernel
theorem dL_act_1017 : decode cL_act 1017 = .ok (.iload_n 2, 1) := by decide +kernel
theorem dL_act_1018 : decode cL_act 1018 = .ok (.bipush 8, 2) := by decide +kernel
theorem dL_act_1020 : decode cL_act 1020 = .ok (.ishr, 1) := by decide +kernel
theorem dL_act_1021 : decode cL_act 1021 = .ok (.iconst 3, 1) := by decide +kernel
theorem dL_act_1022 : decode cL_act 1022 = .ok (.invokestatic 15, 3) := by decide +kernel
theorem dL_act_1025 : decode cL_act 1025 = .ok (.ifCond .ne 8, 3) := by decide +kernel
theorem dL_act_1028 : decode cL_act 1028 = .ok (.bipush 9, 2) := by decide +kernel
theorem dL_act_1030 : decode cL_act 1030 = .ok (.goto 5, 3) := by decide +kernel
theorem dL_act_1033 : decode cL_act 1033 = .ok (.bipush 7, 2) := by decide +kernel
theorem dL_act_1035 : decode cL_act 1035 = .ok (.invokestatic 15, 3) := by decide +kernel
theorem dL_act_1038 : decode cL_act 1038 = .ok (.iadd, 1) := by decide +kernel
theorem dL_act_1039 : decode cL_act 1039 = .ok (.istore 8, 2) := by decide +kernel
theorem dL_act_1041 : decode cL_act 1041 = .ok (.iload_n 2, 1) := by decide +kernel
theorem dL_act_1042 : decode cL_act 1042 = .ok (.iconst 3, 1) := by decide +kernel
theorem dL_act_1043 : decode cL_act 1043 = .ok (.ishr, 1) := by decide +kernel
theorem dL_act_1044 : decode cL_act 1044 = .ok (.iload_n 2, 1) := by decide +kernel
theorem dL_act_1045 : decode cL_act 1045 = .ok (.bipush 6, 2) := by decide +kernel
theorem dL_act_1047 : decode cL_act 1047 = .ok (.ishr, 1) := by decide +kernel
theorem dL_act_1048 : decode cL_act 1048 = .ok (.iconst 3, 1) := by decide +kernel
theorem dL_act_1049 : decode cL_act 1049 = .ok (.invokestatic 15, 3) := by decide +kernel
theorem dL_act_1052 : decode cL_act 1052 = .ok (.ifCond .ne 8, 3) := by decide +kernel
theorem dL_act_1055 : decode cL_act 1055 = .ok (.bipush 10, 2) := by decide +kernel
theorem dL_act_1057 : decode cL_act 1057 = .ok (.goto 5, 3) := by decide +kernel
theorem dL_act_1060 : decode cL_act 1060 = .ok (.bipush 6, 2) := by decide +kernel
theorem dL_act_1062 : decode cL_act 1062 = .ok (.invokestatic 15, 3) := by decide +kernel
theorem dL_act_1065 : decode cL_act 1065 = .ok (.istore 9, 2) := by decide +kernel
theorem dL_act_1067 : decode cL_act 1067 = .ok (.aload_n 1, 1) := by decide +kernel
theorem dL_act_1068 : decode cL_act 1068 = .ok (.getfield 21, 3) := by decide +kernel
theorem dL_act_1071 : decode cL_act 1071 = .ok (.arraylength, 1) := by decide +kernel
theorem dL_act_1072 : decode cL_act 1072 = .ok (.bipush 40, 2) := by decide +kernel
theorem dL_act_1074 : decode cL_act 1074 = .ok (.if_icmp .ge 78, 3) := by decide +kernel
theorem dL_act_1077 : decode cL_act 1077 = .ok (.aload_n 1, 1) := by decide +kernel
theorem dL_act_1078 : decode cL_act 1078 = .ok (.getfield 9, 3) := by decide +kernel
theorem dL_act_1081 : decode cL_act 1081 = .ok (.iload_n 3, 1) := by decide +kernel
theorem dL_act_1082 : decode cL_act 1082 = .ok (.aaload, 1) := by decide +kernel
theorem dL_act_1083 : decode cL_act 1083 = .ok (.iconst 1, 1) := by decide +kernel
theorem dL_act_1084 : decode cL_act 1084 = .ok (.iaload, 1) := by decide +kernel
theorem dL_act_1085 : decode cL_act 1085 = .ok (.ifCond .ne 67, 3) := by decide +kernel
theorem dL_act_1088 : decode cL_act 1088 = .ok (.aload_n 1, 1) := by decide +kernel
theorem dL_act_1089 : decode cL_act 1089 = .ok (.getfield 21, 3) := by decide +kernel
theorem dL_act_1092 : decode cL_act 1092 = .ok (.arraylength, 1) := by decide +kernel
theorem dL_act_1093 : decode cL_act 1093 = .ok (.istore 7, 2) := by decide +kernel
theorem dL_act_1095 : decode cL_act 1095 = .ok (.aload_n 1, 1) := by decide +kernel
theorem dL_act_1096 : decode cL_act 1096 = .ok (.aload_n 1, 1) := by decide +kernel
theorem dL_act_1097 : decode cL_act 1097 = .ok (.getfield 21, 3) := by decide +kernel
theorem dL_act_1100 : decode cL_act 1100 = .ok (.bipush 8, 2) := by decide +kernel
theorem dL_act_1102 : decode cL_act 1102 = .ok (.newarray .int, 2) := by decide +kernel
theorem dL_act_1104 : decode cL_act 1104 = .ok (.dup, 1) := by decide +kernel
theorem dL_act_1105 : decode cL_act 1105 = .ok (.iconst 0, 1) := by decide +kernel
theorem dL_act_1106 : decode cL_act 1106 = .ok (.iload_n 3, 1) := by decide +kernel
theorem dL_act_1107 : decode cL_act 1107 = .ok (.iastore, 1) := by decide +kernel
theorem dL_act_1108 : decode cL_act 1108 = .ok (.dup, 1) := by decide +kernel
theorem dL_act_1109 : decode cL_act 1109 = .ok (.iconst 1, 1) := by decide +kernel
theorem dL_act_1110 : decode cL_act 1110 = .ok (.iload 8, 2) := by decide +kernel
theorem dL_act_1112 : decode cL_act 1112 = .ok (.iastore, 1) := by decide +kernel
theorem dL_act_1113 : decode cL_act 1113 = .ok (.dup, 1) := by decide +kernel
theorem dL_act_1114 : decode cL_act 1114 = .ok (.iconst 2, 1) := by decide +kernel
theorem dL_act_1115 : decode cL_act 1115 = .ok (.iload 9, 2) := by decide +kernel
theorem dL_act_1117 : decode cL_act 1117 = .ok (.iastore, 1) := by decide +kernel
theorem dL_act_1118 : decode cL_act 1118 = .ok (.dup, 1) := by decide +kernel
theorem dL_act_1119 : decode cL_act 1119 = .ok (.iconst 3, 1) := by decide +kernel
theorem dL_act_1120 : decode cL_act 1120 = .ok (.iconst 0, 1) := by decide +kernel
theorem dL_act_1121 : decode cL_act 1121 = .ok (.iastore, 1) := by decide +kernel
theorem dL_act_1122 : decode cL_act 1122 = .ok (.dup, 1) := by decide +kernel
theorem dL_act_1123 : decode cL_act 1123 = .ok (.iconst 4, 1) := by decide +kernel
theorem dL_act_1124 : decode cL_act 1124 = .ok (.iconst (-1), 1) := by decide +kernel
theorem dL_act_1125 : decode cL_act 1125 = .ok (.iastore, 1) := by decide +kernel
theorem dL_act_1126 : decode cL_act 1126 = .ok (.dup, 1) := by decide +kernel
theorem dL_act_1127 : decode cL_act 1127 = .ok (.iconst 5, 1) := by decide +kernel
theorem dL_act_1128 : decode cL_act 1128 = .ok (.iconst (-1), 1) := by decide +kernel
theorem dL_act_1129 : decode cL_act 1129 = .ok (.iastore, 1) := by decide +kernel
theorem dL_act_1130 : decode cL_act 1130 = .ok (.dup, 1) := by decide +kernel
theorem dL_act_1131 : decode cL_act 1131 = .ok (.bipush 6, 2) := by decide +kernel
theorem dL_act_1133 : decode cL_act 1133 = .ok (.iconst 0, 1) := by decide +kernel
theorem dL_act_1134 : decode cL_act 1134 = .ok (.iastore, 1) := by decide +kernel
theorem dL_act_1135 : decode cL_act 1135 = .ok (.dup, 1) := by decide +kernel
theorem dL_act_1136 : decode cL_act 1136 = .ok (.bipush 7, 2) := by decide +kernel
theorem dL_act_1138 : decode cL_act 1138 = .ok (.iconst 0, 1) := by decide +kernel
theorem dL_act_1139 : decode cL_act 1139 = .ok (.iastore, 1) := by decide +kernel
theorem dL_act_1140 : decode cL_act 1140 = .ok (.invokestatic 24, 3) := by decide +kernel
theorem dL_act_1143 : decode cL_act 1143 = .ok (.putfield 21, 3) := by decide +kernel
theorem dL_act_1146 : decode cL_act 1146 = .ok (.aload_n 1, 1) := by decide +kernel
theorem dL_act_1147 : decode cL_act 1147 = .ok (.iload 7, 2) := by decide +kernel
theorem dL_act_1149 : decode cL_act 1149 = .ok (.invokevirtual 74, 3) := by decide +kernel
theorem dL_act_1152 : decode cL_act 1152 = .ok (.aload_n 0, 1) := by decide +kernel
theorem dL_act_1153 : decode cL_act 1153 = .ok (.iload_n 3, 1) := by decide +kernel
theorem dL_act_1154 : decode cL_act 1154 = .ok (.iload 8, 2) := by decide +kernel
theorem dL_act_1156 : decode cL_act 1156 = .ok (.iload 9, 2) := by decide +kernel
theorem dL_act_1158 : decode cL_act 1158 = .ok (.invokevirtual 84, 3) := by decide +kernel
theorem dL_act_1161 : decode cL_act 1161 = .ok (.istore 6, 2) := by decide +kernel
theorem dL_act_1163 : decode cL_act 1163 = .ok (.goto 8, 3) := by decide +kernel
theorem dL_act_1166 : decode cL_act 1166 = .ok (.astore 10, 2) := by decide +kernel
theorem dL_act_1168 : decode cL_act 1168 = .ok (.iconst (-1), 1) := by decide +kernel
theorem dL_act_1169 : decode cL_act 1169 = .ok (.istore 6, 2) := by decide +kernel
theorem dL_act_1171 : decode cL_act 1171 = .ok (.iload 6, 2) := by decide +kernel
theorem dL_act_1173 : decode cL_act 1173 = .ok (.iload 7, 2) := by decide +kernel
theorem dL_act_1175 : decode cL_act 1175 = .ok (.if_icmp .ne 7, 3) := by decide +kernel
theorem dL_act_1178 : decode cL_act 1178 = .ok (.iconst 1, 1) := by decide +kernel
theorem dL_act_1179 : decode cL_act 1179 = .ok (.goto 4, 3) := by decide +kernel
theorem dL_act_1182 : decode cL_act 1182 = .ok (.iconst 0, 1) := by decide +kernel
theorem dL_act_1183 : decode cL_act 1183 = .ok (.ireturn, 1) := by decide +kernel
theorem dL_act_1184 : decode cL_act 1184 = .ok (.iconst 1, 1) := by decide +kernel
theorem dL_act_1185 : decode cL_act 1185 = .ok (.iload_n 2, 1) := by decide +kernel
theorem dL_act_1186 : decode cL_act 1186 = .ok (.iconst 5, 1) := by decide +kernel
theorem dL_act_1187 : decode cL_act 1187 = .ok (.ishr, 1) := by decide +kernel
theorem dL_act_1188 : decode cL_act 1188 = .ok (.iload_n 2, 1) := by decide +kernel
theorem dL_act_1189 : decode cL_act 1189 = .ok (.bipush 8, 2) := by decide +kernel
theorem dL_act_1191 : decode cL_act 1191 = .ok (.ishr, 1) := by decide +kernel
theorem dL_act_1192 : decode cL_act 1192 = .ok (.iconst 5, 1) := by decide +kernel
theorem dL_act_1193 : decode cL_act 1193 = .ok (.invokestatic 15, 3) := by decide +kernel
theorem dL_act_1196 : decode cL_act 1196 = .ok (.ifCond .ne 8, 3) := by decide +kernel
theorem dL_act_1199 : decode cL_act 1199 = .ok (.bipush 30, 2) := by decide +kernel
theorem dL_act_1201 : decode cL_act 1201 = .ok (.goto 5, 3) := by decide +kernel
theorem dL_act_1204 : decode cL_act 1204 = .ok (.bipush 7, 2) := by decide +kernel
theorem dL_act_1206 : decode cL_act 1206 = .ok (.invokestatic 15, 3) := by decide +kernel
theorem dL_act_1209 : decode cL_act 1209 = .ok (.iadd, 1) := by decide +kernel
theorem dL_act_1210 : decode cL_act 1210 = .ok (.istore 8, 2) := by decide +kernel
theorem dL_act_1212 : decode cL_act 1212 = .ok (.aload_n 0, 1) := by decide +kernel
theorem dL_act_1213 : decode cL_act 1213 = .ok (.iload 8, 2) := by decide +kernel
theorem dL_act_1215 : decode cL_act 1215 = .ok (.invokevirtual 88, 3) := by decide +kernel
theorem dL_act_1218 : decode cL_act 1218 = .ok (.aload_n 1, 1) := by decide +kernel
theorem dL_act_1219 : decode cL_act 1219 = .ok (.iload 8, 2) := by decide +kernel
theorem dL_act_1221 : decode cL_act 1221 = .ok (.invokevirtual 91, 3) := by decide +kernel
theorem dL_act_1224 : decode cL_act 1224 = .ok (.if_icmp .ne 7, 3) := by decide +kernel
theorem dL_act_1227 : decode cL_act 1227 = .ok (.iconst 1, 1) := by decide +kernel
theorem dL_act_1228 : decode cL_act 1228 = .ok (.goto 4, 3) := by decide +kernel
theorem dL_act_1231 : decode cL_act 1231 = .ok (.iconst 0, 1) := by decide +kernel
theorem dL_act_1232 : decode cL_act 1232 = .ok (.ireturn, 1) := by decide +kernel
theorem dL_build_0 : decode cL_build 0 = .ok (.new 10, 3) := by decide +kernel
theorem dL_build_3 : decode cL_build 3 = .ok (.dup, 1) := by decide +kernel
theorem dL_build_4 : decode cL_build 4 = .ok (.invokespecial 94, 3) := by decide +kernel
theorem dL_build_7 : decode cL_build 7 = .ok (.astore_n 2, 1) := by decide +kernel
theorem dL_build_8 : decode cL_build 8 = .ok (.iconst 1, 1) := by decide +kernel
theorem dL_build_9 : decode cL_build 9 = .ok (.aload_n 1, 1) := by decide +kernel
theorem dL_build_10 : decode cL_build 10 = .ok (.iconst 0, 1) := by decide +kernel
theorem dL_build_11 : decode cL_build 11 = .ok (.invokestatic 95, 3) := by decide +kernel
theorem dL_build_14 : decode cL_build 14 = .ok (.bipush 6, 2) := by decide +kernel
theorem dL_build_16 : decode cL_build 16 = .ok (.invokestatic 15, 3) := by decide +kernel
theorem dL_build_19 : decode cL_build 19 = .ok (.iadd, 1) := by decide +kernel
theorem dL_build_20 : decode cL_build 20 = .ok (.istore_n 3, 1) := by decide +kernel
theorem dL_build_21 : decode cL_build 21 = .ok (.iconst 0, 1) := by decide +kernel
theorem dL_build_22 : decode cL_build 22 = .ok (.istore 4, 2) := by decide +kernel
theorem dL_build_24 : decode cL_build 24 = .ok (.iload 4, 2) := by decide +kernel
theorem dL_build_26 : decode cL_build 26 = .ok (.iload_n 3, 1) := by decide +kernel
theorem dL_build_27 : decode cL_build 27 = .ok (.if_icmp .ge 105, 3) := by decide +kernel
theorem dL_build_30 : decode cL_build 30 = .ok (.aload_n 2, 1) := by decide +kernel
theorem dL_build_31 : decode cL_build 31 = .ok (.aload_n 2, 1) := by decide +kernel
theorem dL_build_32 : decode cL_build 32 = .ok (.getfield 9, 3) := by decide +kernel
theorem dL_build_35 : decode cL_build 35 = .ok (.iconst 2, 1) := by decide +kernel
theorem dL_build_36 : decode cL_build 36 = .ok (.newarray .int, 2) := by decide +kernel
theorem dL_build_38 : decode cL_build 38 = .ok (.dup, 1) := by decide +kernel
theorem dL_build_39 : decode cL_build 39 = .ok (.iconst 0, 1) := by decide +kernel
theorem dL_build_40 : decode cL_build 40 = .ok (.iconst (-1), 1) := by decide +kernel
theorem dL_build_41 : decode cL_build 41 = .ok (.iastore, 1) := by decide +kernel
theorem dL_build_42 : decode cL_build 42 = .ok (.dup, 1) := by decide +kernel
theorem dL_build_43 : decode cL_build 43 = .ok (.iconst 1, 1) := by decide +kernel
theorem dL_build_44 : decode cL_build 44 = .ok (.iconst 0, 1) := by decide +kernel
theorem dL_build_45 : decode cL_build 45 = .ok (.iastore, 1) := by decide +kernel
theorem dL_build_46 : decode cL_build 46 = .ok (.invokestatic 24, 3) := by decide +kernel
theorem dL_build_49 : decode cL_build 49 = .ok (.putfield 9, 3) := by decide +kernel
theorem dL_build_52 : decode cL_build 52 = .ok (.aload_n 0, 1) := by decide +kernel
theorem dL_build_53 : decode cL_build 53 = .ok (.invokevirtual 28, 3) := by decide +kernel
theorem dL_build_56 : decode cL_build 56 = .ok (.iload 4, 2) := by decide +kernel
theorem dL_build_58 : decode cL_build 58 = .ok (.if_icmp .eq 5, 3) := by decide +kernel
theorem dL_build_61 : decode cL_build 61 = .ok (.aconst_null, 1) := by decide +kernel
theorem dL_build_62 : decode cL_build 62 = .ok (.areturn, 1) := by decide +kernel
theorem dL_build_63 : decode cL_build 63 = .ok (.aload_n 1, 1) := by decide +kernel
theorem dL_build_64 : decode cL_build 64 = .ok (.iconst 1, 1) := by decide +kernel
theorem dL_build_65 : decode cL_build 65 = .ok (.invokestatic 95, 3) := by decide +kernel
theorem dL_build_68 : decode cL_build 68 = .ok (.iconst 2, 1) := by decide +kernel
theorem dL_build_69 : decode cL_build 69 = .ok (.iload 4, 2) := by decide +kernel
theorem dL_build_71 : decode cL_build 71 = .ok (.imul, 1) := by decide +kernel
theorem dL_build_72 : decode cL_build 72 = .ok (.ishr, 1) := by decide +kernel
theorem dL_build_73 : decode cL_build 73 = .ok (.iconst 4, 1) := by decide +kernel
theorem dL_build_74 : decode cL_build 74 = .ok (.invokestatic 15, 3) := by decide +kernel
theorem dL_build_77 : decode cL_build 77 = .ok (.ifCond .ne 6, 3) := by decide +kernel
theorem dL_build_80 : decode cL_build 80 = .ok (.goto 46, 3) := by decide +kernel
theorem dL_build_83 : decode cL_build 83 = .ok (.aload_n 2, 1) := by decide +kernel
theorem dL_build_84 : decode cL_build 84 = .ok (.getfield 9, 3) := by decide +kernel
theorem dL_build_87 : decode cL_build 87 = .ok (.iload 4, 2) := by decide +kernel
theorem dL_build_89 : decode cL_build 89 = .ok (.aaload, 1) := by decide +kernel
theorem dL_build_90 : decode cL_build 90 = .ok (.iconst 0, 1) := by decide +kernel
theorem dL_build_91 : decode cL_build 91 = .ok (.aload_n 1, 1) := by decide +kernel
theorem dL_build_92 : decode cL_build 92 = .ok (.iconst 1, 1) := by decide +kernel
theorem dL_build_93 : decode cL_build 93 = .ok (.invokestatic 95, 3) := by decide +kernel
theorem dL_build_96 : decode cL_build 96 = .ok (.iconst 3, 1) := by decide +kernel
theorem dL_build_97 : decode cL_build 97 = .ok (.iload 4, 2) := by decide +kernel
theorem dL_build_99 : decode cL_build 99 = .ok (.imul, 1) := by decide +kernel
theorem dL_build_100 : decode cL_build 100 = .ok (.ishr, 1) := by decide +kernel
theorem dL_build_101 : decode cL_build 101 = .ok (.iconst 4, 1) := by decide +kernel
theorem dL_build_102 : decode cL_build 102 = .ok (.invokestatic 15, 3) := by decide +kernel
theorem dL_build_105 : decode cL_build 105 = .ok (.iastore, 1) := by decide +kernel
theorem dL_build_106 : decode cL_build 106 = .ok (.aload_n 0, 1) := by decide +kernel
theorem dL_build_107 : decode cL_build 107 = .ok (.iload 4, 2) := by decide +kernel
theorem dL_build_109 : decode cL_build 109 = .ok (.aload_n 2, 1) := by decide +kernel
theorem dL_build_110 : decode cL_build 110 = .ok (.getfield 9, 3) := by decide +kernel
theorem dL_build_113 : decode cL_build 113 = .ok (.iload 4, 2) := by decide +kernel
theorem dL_build_115 : decode cL_build 115 = .ok (.aaload, 1) := by decide +kernel
theorem dL_build_116 : decode cL_build 116 = .ok (.iconst 0, 1) := by decide +kernel
theorem dL_build_117 : decode cL_build 117 = .ok (.iaload, 1) := by decide +kernel
theorem dL_build_118 : decode cL_build 118 = .ok (.invokevirtual 40, 3) := by decide +kernel
theorem dL_build_121 : decode cL_build 121 = .ok (.ifCond .eq 5, 3) := by decide +kernel
theorem dL_build_124 : decode cL_build 124 = .ok (.aconst_null, 1) := by decide +kernel
theorem dL_build_125 : decode cL_build 125 = .ok (.areturn, 1) := by decide +kernel
theorem dL_build_126 : decode cL_build 126 = .ok (.iinc 4 1, 3) := by decide +kernel
theorem dL_build_129 : decode cL_build 129 = .ok (.goto (-105), 3) := by decide +kernel
theorem dL_build_132 : decode cL_build 132 = .ok (.aload_n 1, 1) := by decide +kernel
theorem dL_build_133 : decode cL_build 133 = .ok (.iconst 2, 1) := by decide +kernel
theorem dL_build_134 : decode cL_build 134 = .ok (.invokestatic 95, 3) := by decide +kernel
theorem dL_build_137 : decode cL_build 137 = .ok (.bipush 16, 2) := by decide +kernel
theorem dL_build_139 : decode cL_build 139 = .ok (.invokestatic 15, 3) := by decide +kernel
theorem dL_build_142 : decode cL_build 142 = .ok (.istore 4, 2) := by decide +kernel
theorem dL_build_144 : decode cL_build 144 = .ok (.iconst 0, 1) := by decide +kernel
theorem dL_build_145 : decode cL_build 145 = .ok (.istore 5, 2) := by decide +kernel
theorem dL_build_147 : decode cL_build 147 = .ok (.iload 5, 2) := by decide +kernel
theorem dL_build_149 : decode cL_build 149 = .ok (.iload 4, 2) := by decide +kernel
theorem dL_build_151 : decode cL_build 151 = .ok (.if_icmp .ge 135, 3) := by decide +kernel
theorem dL_build_154 : decode cL_build 154 = .ok (.aload_n 1, 1) := by decide +kernel
theorem dL_build_155 : decode cL_build 155 = .ok (.iconst 3, 1) := by decide +kernel
theorem dL_build_156 : decode cL_build 156 = .ok (.iload 5, 2) := by decide +kernel
theorem dL_build_158 : decode cL_build 158 = .ok (.bipush 13, 2) := by decide +kernel
theorem dL_build_160 : decode cL_build 160 = .ok (.irem, 1) := by decide +kernel
theorem dL_build_161 : decode cL_build 161 = .ok (.iadd, 1) := by decide +kernel
theorem dL_build_162 : decode cL_build 162 = .ok (.invokestatic 95, 3) := by decide +kernel
theorem dL_build_165 : decode cL_build 165 = .ok (.iconst 2, 1) := by decide +kernel
theorem dL_build_166 : decode cL_build 166 = .ok (.ishr, 1) := by decide +kernel
theorem dL_build_167 : decode cL_build 167 = .ok (.bipush 17, 2) := by decide +kernel
theorem dL_build_169 : decode cL_build 169 = .ok (.iload 5, 2) := by decide +kernel
theorem dL_build_171 : decode cL_build 171 = .ok (.imul, 1) := by decide +kernel
theorem dL_build_172 : decode cL_build 172 = .ok (.iadd, 1) := by decide +kernel
theorem dL_build_173 : decode cL_build 173 = .ok (.istore 6, 2) := by decide +kernel
theorem dL_build_175 : decode cL_build 175 = .ok (.bipush 8, 2) := by decide +kernel
theorem dL_build_177 : decode cL_build 177 = .ok (.newarray .int, 2) := by decide +kernel
theorem dL_build_179 : decode cL_build 179 = .ok (.dup, 1) := by decide +kernel
theorem dL_build_180 : decode cL_build 180 = .ok (.iconst 0, 1) := by decide +kernel
theorem dL_build_181 : decode cL_build 181 = .ok (.iload 6, 2) := by decide +kernel
theorem dL_build_183 : decode cL_build 183 = .ok (.iload_n 3, 1) := by decide +kernel
theorem dL_build_184 : decode cL_build 184 = .ok (.invokestatic 15, 3) := by decide +kernel
theorem dL_build_187 : decode cL_build 187 = .ok (.iastore, 1) := by decide +kernel
theorem dL_build_188 : decode cL_build 188 = .ok (.dup, 1) := by decide +kernel
theorem dL_build_189 : decode cL_build 189 = .ok (.iconst 1, 1) := by decide +kernel
theorem dL_build_190 : decode cL_build 190 = .ok (.iconst 1, 1) := by decide +kernel
theorem dL_build_191 : decode cL_build 191 = .ok (.iload 6, 2) := by decide +kernel
theorem dL_build_193 : decode cL_build 193 = .ok (.iconst 2, 1) := by decide +kernel
theorem dL_build_194 : decode cL_build 194 = .ok (.ishr, 1) := by decide +kernel
theorem dL_build_195 : decode cL_build 195 = .ok (.bipush 9, 2) := by decide +kernel
theorem dL_build_197 : decode cL_build 197 = .ok (.invokestatic 15, 3) := by decide +kernel
theorem dL_build_200 : decode cL_build 200 = .ok (.iadd, 1) := by decide +kernel
theorem dL_build_201 : decode cL_build 201 = .ok (.iastore, 1) := by decide +kernel
theorem dL_build_202 : decode cL_build 202 = .ok (.dup, 1) := by decide +kernel
theorem dL_build_203 : decode cL_build 203 = .ok (.iconst 2, 1) := by decide +kernel
theorem dL_build_204 : decode cL_build 204 = .ok (.iload 6, 2) := by decide +kernel
theorem dL_build_206 : decode cL_build 206 = .ok (.iconst 4, 1) := by decide +kernel
theorem dL_build_207 : decode cL_build 207 = .ok (.ishr, 1) := by decide +kernel
theorem dL_build_208 : decode cL_build 208 = .ok (.bipush 9, 2) := by decide +kernel
theorem dL_build_210 : decode cL_build 210 = .ok (.invokestatic 15, 3) := by decide +kernel
theorem dL_build_213 : decode cL_build 213 = .ok (.iastore, 1) := by decide +kernel
theorem dL_build_214 : decode cL_build 214 = .ok (.dup, 1) := by decide +kernel
theorem dL_build_215 : decode cL_build 215 = .ok (.iconst 3, 1) := by decide +kernel
theorem dL_build_216 : decode cL_build 216 = .ok (.iconst 0, 1) := by decide +kernel
theorem dL_build_217 : decode cL_build 217 = .ok (.iastore, 1) := by decide +kernel
theorem dL_build_218 : decode cL_build 218 = .ok (.dup, 1) := by decide +kernel
theorem dL_build_219 : decode cL_build 219 = .ok (.iconst 4, 1) := by decide +kernel
theorem dL_build_220 : decode cL_build 220 = .ok (.iconst (-1), 1) := by decide +kernel
theorem dL_build_221 : decode cL_build 221 = .ok (.iastore, 1) := by decide +kernel
theorem dL_build_222 : decode cL_build 222 = .ok (.dup, 1) := by decide +kernel
theorem dL_build_223 : decode cL_build 223 = .ok (.iconst 5, 1) := by decide +kernel
theorem dL_build_224 : decode cL_build 224 = .ok (.iconst (-1), 1) := by decide +kernel
theorem dL_build_225 : decode cL_build 225 = .ok (.iastore, 1) := by decide +kernel
theorem dL_build_226 : decode cL_build 226 = .ok (.dup, 1) := by decide +kernel
theorem dL_build_227 : decode cL_build 227 = .ok (.bipush 6, 2) := by decide +kernel
theorem dL_build_229 : decode cL_build 229 = .ok (.iconst 0, 1) := by decide +kernel
theorem dL_build_230 : decode cL_build 230 = .ok (.iastore, 1) := by decide +kernel
theorem dL_build_231 : decode cL_build 231 = .ok (.dup, 1) := by decide +kernel
theorem dL_build_232 : decode cL_build 232 = .ok (.bipush 7, 2) := by decide +kernel
theorem dL_build_234 : decode cL_build 234 = .ok (.iconst 0, 1) := by decide +kernel
theorem dL_build_235 : decode cL_build 235 = .ok (.iastore, 1) := by decide +kernel
theorem dL_build_236 : decode cL_build 236 = .ok (.astore 7, 2) := by decide +kernel
theorem dL_build_238 : decode cL_build 238 = .ok (.aload_n 2, 1) := by decide +kernel
theorem dL_build_239 : decode cL_build 239 = .ok (.aload_n 2, 1) := by decide +kernel
theorem dL_build_240 : decode cL_build 240 = .ok (.getfield 21, 3) := by decide +kernel
theorem dL_build_243 : decode cL_build 243 = .ok (.aload 7, 2) := by decide +kernel
theorem dL_build_245 : decode cL_build 245 = .ok (.invokestatic 24, 3) := by decide +kernel
theorem dL_build_248 : decode cL_build 248 = .ok (.putfield 21, 3) := by decide +kernel
theorem dL_build_251 : decode cL_build 251 = .ok (.aload_n 2, 1) := by decide +kernel
theorem dL_build_252 : decode cL_build 252 = .ok (.iload 5, 2) := by decide +kernel
theorem dL_build_254 : decode cL_build 254 = .ok (.invokevirtual 74, 3) := by decide +kernel
theorem dL_build_257 : decode cL_build 257 = .ok (.aload_n 0, 1) := by decide +kernel
theorem dL_build_258 : decode cL_build 258 = .ok (.aload 7, 2) := by decide +kernel
theorem dL_build_260 : decode cL_build 260 = .ok (.iconst 0, 1) := by decide +kernel
theorem dL_build_261 : decode cL_build 261 = .ok (.iaload, 1) := by decide +kernel
theorem dL_build_262 : decode cL_build 262 = .ok (.aload 7, 2) := by decide +kernel
theorem dL_build_264 : decode cL_build 264 = .ok (.iconst 1, 1) := by decide +kernel
theorem dL_build_265 : decode cL_build 265 = .ok (.iaload, 1) := by decide +kernel
theorem dL_build_266 : decode cL_build 266 = .ok (.aload 7, 2) := by decide +kernel
theorem dL_build_268 : decode cL_build 268 = .ok (.iconst 2, 1) := by decide +kernel
theorem dL_build_269 : decode cL_build 269 = .ok (.iaload, 1) := by decide +kernel
theorem dL_build_270 : decode cL_build 270 = .ok (.invokevirtual 84, 3) := by decide +kernel
theorem dL_build_273 : decode cL_build 273 = .ok (.iload 5, 2) := by decide +kernel
theorem dL_build_275 : decode cL_build 275 = .ok (.if_icmp .eq 5, 3) := by decide +kernel
theorem dL_build_278 : decode cL_build 278 = .ok (.aconst_null, 1) := by decide +kernel
theorem dL_build_279 : decode cL_build 279 = .ok (.areturn, 1) := by decide +kernel
theorem dL_build_280 : decode cL_build 280 = .ok (.iinc 5 1, 3) := by decide +kernel
theorem dL_build_283 : decode cL_build 283 = .ok (.goto (-136), 3) := by decide +kernel
theorem dL_build_286 : decode cL_build 286 = .ok (.aload_n 2, 1) := by decide +kernel
theorem dL_build_287 : decode cL_build 287 = .ok (.areturn, 1) := by decide +kernel
theorem dL_law_0 : decode cL_law 0 = .ok (.new 29, 3) := by decide +kernel
theorem dL_law_3 : decode cL_law 3 = .ok (.dup, 1) := by decide +kernel
theorem dL_law_4 : decode cL_law 4 = .ok (.invokespecial 99, 3) := by decide +kernel
theorem dL_law_7 : decode cL_law 7 = .ok (.astore_n 1, 1) := by decide +kernel
theorem dL_law_8 : decode cL_law 8 = .ok (.aload_n 1, 1) := by decide +kernel
theorem dL_law_9 : decode cL_law 9 = .ok (.aload_n 0, 1) := by decide +kernel
theorem dL_law_10 : decode cL_law 10 = .ok (.invokestatic 100, 3) := by decide +kernel
theorem dL_law_13 : decode cL_law 13 = .ok (.astore_n 2, 1) := by decide +kernel
theorem dL_law_14 : decode cL_law 14 = .ok (.aload_n 2, 1) := by decide +kernel
theorem dL_law_15 : decode cL_law 15 = .ok (.ifnonnull 5, 3) := by decide +kernel
theorem dL_law_18 : decode cL_law 18 = .ok (.iconst 0, 1) := by decide +kernel
theorem dL_law_19 : decode cL_law 19 = .ok (.ireturn, 1) := by decide +kernel
theorem dL_law_20 : decode cL_law 20 = .ok (.iconst 0, 1) := by decide +kernel
theorem dL_law_21 : decode cL_law 21 = .ok (.istore_n 3, 1) := by decide +kernel
theorem dL_law_22 : decode cL_law 22 = .ok (.iload_n 3, 1) := by decide +kernel
theorem dL_law_23 : decode cL_law 23 = .ok (.bipush 14, 2) := by decide +kernel
theorem dL_law_25 : decode cL_law 25 = .ok (.if_icmp .ge 1178, 3) := by decide +kernel
theorem dL_law_28 : decode cL_law 28 = .ok (.aload_n 0, 1) := by decide +kernel
theorem dL_law_29 : decode cL_law 29 = .ok (.iload_n 3, 1) := by decide +kernel
theorem dL_law_30 : decode cL_law 30 = .ok (.invokestatic 95, 3) := by decide +kernel
theorem dL_law_33 : decode cL_law 33 = .ok (.iconst 2, 1) := by decide +kernel
theorem dL_law_34 : decode cL_law 34 = .ok (.ishr, 1) := by decide +kernel
theorem dL_law_35 : decode cL_law 35 = .ok (.bipush 53, 2) := by decide +kernel
theorem dL_law_37 : decode cL_law 37 = .ok (.iload_n 3, 1) := by decide +kernel
theorem dL_law_38 : decode cL_law 38 = .ok (.imul, 1) := by decide +kernel
theorem dL_law_39 : decode cL_law 39 = .ok (.iadd, 1) := by decide +kernel
theorem dL_law_40 : decode cL_law 40 = .ok (.istore 4, 2) := by decide +kernel
theorem dL_law_42 : decode cL_law 42 = .ok (.iconst 0, 1) := by decide +kernel
theorem dL_law_43 : decode cL_law 43 = .ok (.istore 5, 2) := by decide +kernel
theorem dL_law_45 : decode cL_law 45 = .ok (.iload 5, 2) := by decide +kernel
theorem dL_law_47 : decode cL_law 47 = .ok (.iconst 4, 1) := by decide +kernel
theorem dL_law_48 : decode cL_law 48 = .ok (.if_icmp .ge 32, 3) := by decide +kernel
theorem dL_law_51 : decode cL_law 51 = .ok (.aload_n 1, 1) := by decide +kernel
theorem dL_law_52 : decode cL_law 52 = .ok (.aload_n 2, 1) := by decide +kernel
theorem dL_law_53 : decode cL_law 53 = .ok (.iload 4, 2) := by decide +kernel
theorem dL_law_55 : decode cL_law 55 = .ok (.iconst 3, 1) := by decide +kernel
theorem dL_law_56 : decode cL_law 56 = .ok (.iload 5, 2) := by decide +kernel
theorem dL_law_58 : decode cL_law 58 = .ok (.imul, 1) := by decide +kernel
theorem dL_law_59 : decode cL_law 59 = .ok (.ishr, 1) := by decide +kernel
theorem dL_law_60 : decode cL_law 60 = .ok (.bipush 29, 2) := by decide +kernel
theorem dL_law_62 : decode cL_law 62 = .ok (.iload 5, 2) := by decide +kernel
theorem dL_law_64 : decode cL_law 64 = .ok (.imul, 1) := by decide +kernel
theorem dL_law_65 : decode cL_law 65 = .ok (.iadd, 1) := by decide +kernel
theorem dL_law_66 : decode cL_law 66 = .ok (.invokestatic 104, 3) := by decide +kernel
theorem dL_law_69 : decode cL_law 69 = .ok (.ifCond .ne 5, 3) := by decide +kernel
theorem dL_law_72 : decode cL_law 72 = .ok (.iconst 0, 1) := by decide +kernel
theorem dL_law_73 : decode cL_law 73 = .ok (.ireturn, 1) := by decide +kernel
theorem dL_law_74 : decode cL_law 74 = .ok (.iinc 5 1, 3) := by decide +kernel
theorem dL_law_77 : decode cL_law 77 = .ok (.goto (-32), 3) := by decide +kernel
theorem dL_law_80 : decode cL_law 80 = .ok (.aload_n 1, 1) := by decide +kernel
theorem dL_law_81 : decode cL_law 81 = .ok (.invokevirtual 108, 3) := by decide +kernel
theorem dL_law_84 : decode cL_law 84 = .ok (.lstore 5, 2) := by decide +kernel
theorem dL_law_86 : decode cL_law 86 = .ok (.aload_n 1, 1) := by decide +kernel
theorem dL_law_87 : decode cL_law 87 = .ok (.invokevirtual 112, 3) := by decide +kernel
theorem dL_law_90 : decode cL_law 90 = .ok (.istore 7, 2) := by decide +kernel
theorem dL_law_92 : decode cL_law 92 = .ok (.bipush 6, 2) := by decide +kernel
theorem dL_law_94 : decode cL_law 94 = .ok (.newarray .int, 2) := by decide +kernel
theorem dL_law_96 : decode cL_law 96 = .ok (.astore 8, 2) := by decide +kernel
theorem dL_law_98 : decode cL_law 98 = .ok (.iconst 4, 1) := by decide +kernel
theorem dL_law_99 : decode cL_law 99 = .ok (.newarray .int, 2) := by decide +kernel
theorem dL_law_101 : decode cL_law 101 = .ok (.astore 9, 2) := by decide +kernel
theorem dL_law_103 : decode cL_law 103 = .ok (.iconst 4, 1) := by decide +kernel
theorem dL_law_104 : decode cL_law 104 = .ok (.newarray .int, 2) := by decide +kernel
theorem dL_law_106 : decode cL_law 106 = .ok (.astore 10, 2) := by decide +kernel
theorem dL_law_108 : decode cL_law 108 = .ok (.iconst 0, 1) := by decide +kernel
theorem dL_law_109 : decode cL_law 109 = .ok (.istore 11, 2) := by decide +kernel
theorem dL_law_111 : decode cL_law 111 = .ok (.iconst 0, 1) := by decide +kernel
theorem dL_law_112 : decode cL_law 112 = .ok (.istore 12, 2) := by decide +kernel
theorem dL_law_114 : decode cL_law 114 = .ok (.iload 12, 2) := by decide +kernel
theorem dL_law_116 : decode cL_law 116 = .ok (.iload 7, 2) := by decide +kernel
theorem dL_law_118 : decode cL_law 118 = .ok (.if_icmp .ge 223, 3) := by decide +kernel
theorem dL_law_121 : decode cL_law 121 = .ok (.aload_n 1, 1) := by decide +kernel
theorem dL_law_122 : decode cL_law 122 = .ok (.iload 12, 2) := by decide +kernel
theorem dL_law_124 : decode cL_law 124 = .ok (.invokevirtual 114, 3) := by decide +kernel
theorem dL_law_127 : decode cL_law 127 = .ok (.istore 13, 2) := by decide +kernel
theorem dL_law_129 : decode cL_law 129 = .ok (.aload_n 1, 1) := by decide +kernel
theorem dL_law_130 : decode cL_law 130 = .ok (.iload 12, 2) := by decide +kernel
theorem dL_law_132 : decode cL_law 132 = .ok (.invokevirtual 117, 3) := by decide +kernel
theorem dL_law_135 : decode cL_law 135 = .ok (.istore 14, 2) := by decide +kernel
theorem dL_law_137 : decode cL_law 137 = .ok (.aload_n 1, 1) := by decide +kernel
theorem dL_law_138 : decode cL_law 138 = .ok (.iload 12, 2) := by decide +kernel
theorem dL_law_140 : decode cL_law 140 = .ok (.invokevirtual 120, 3) := by decide +kernel
theorem dL_law_143 : decode cL_law 143 = .ok (.istore 15, 2) := by decide +kernel
theorem dL_law_145 : decode cL_law 145 = .ok (.iload 13, 2) := by decide +kernel
theorem dL_law_147 : decode cL_law 147 = .ok (.ifCond .lt 102, 3) := by decide +kernel
theorem dL_law_150 : decode cL_law 150 = .ok (.iload 13, 2) := by decide +kernel
theorem dL_law_152 : decode cL_law 152 = .ok (.iconst 5, 1) := by decide +kernel
theorem dL_law_153 : decode cL_law 153 = .ok (.if_icmp .gt 96, 3) := by decide +kernel
theorem dL_law_156 : decode cL_law 156 = .ok (.iload 14, 2) := by decide +kernel
theorem dL_law_158 : decode cL_law 158 = .ok (.ifCond .lt 7, 3) := by decide +kernel
theorem dL_law_161 : decode cL_law 161 = .ok (.iconst 1, 1) := by decide +kernel
theorem dL_law_162 : decode cL_law 162 = .ok (.goto 4, 3) := by decide +kernel
theorem dL_law_165 : decode cL_law 165 = .ok (.iconst 0, 1) := by decide +kernel
theorem dL_law_166 : decode cL_law 166 = .ok (.iload 13, 2) := by decide +kernel
theorem dL_law_168 : decode cL_law 168 = .ok (.iconst 1, 1) := by decide +kernel
theorem dL_law_169 : decode cL_law 169 = .ok (.if_icmp .ne 7, 3) := by decide +kernel
theorem dL_law_172 : decode cL_law 172 = .ok (.iconst 1, 1) := by decide +kernel
theorem dL_law_173 : decode cL_law 173 = .ok (.goto 4, 3) := by decide +kernel
theorem dL_law_176 : decode cL_law 176 = .ok (.iconst 0, 1) := by decide +kernel
theorem dL_law_177 : decode cL_law 177 = .ok (.if_icmp .ne 72, 3) := by decide +kernel
theorem dL_law_180 : decode cL_law 180 = .ok (.iload 15, 2) := by decide +kernel
theorem dL_law_182 : decode cL_law 182 = .ok (.ifCond .lt 7, 3) := by decide +kernel
theorem dL_law_185 : decode cL_law 185 = .ok (.iconst 1, 1) := by decide +kernel
theorem dL_law_186 : decode cL_law 186 = .ok (.goto 4, 3) := by decide +kernel
theorem dL_law_189 : decode cL_law 189 = .ok (.iconst 0, 1) := by decide +kernel
theorem dL_law_190 : decode cL_law 190 = .ok (.iload 13, 2) := by decide +kernel
theorem dL_law_192 : decode cL_law 192 = .ok (.iconst 2, 1) := by decide +kernel
theorem dL_law_193 : decode cL_law 193 = .ok (.if_icmp .ne 7, 3) := by decide +kernel
theorem dL_law_196 : decode cL_law 196 = .ok (.iconst 1, 1) := by decide +kernel
theorem dL_law_197 : decode cL_law 197 = .ok (.goto 4, 3) := by decide +kernel
theorem dL_law_200 : decode cL_law 200 = .ok (.iconst 0, 1) := by decide +kernel
theorem dL_law_201 : decode cL_law 201 = .ok (.if_icmp .ne 48, 3) := by decide +kernel
theorem dL_law_204 : decode cL_law 204 = .ok (.iload 14, 2) := by decide +kernel
theorem dL_law_206 : decode cL_law 206 = .ok (.ifCond .lt 14, 3) := by decide +kernel
theorem dL_law_209 : decode cL_law 209 = .ok (.aload_n 1, 1) := by decide +kernel
theorem dL_law_210 : decode cL_law 210 = .ok (.iload 14, 2) := by decide +kernel
theorem dL_law_212 : decode cL_law 212 = .ok (.invokevirtual 123, 3) := by decide +kernel
theorem dL_law_215 : decode cL_law 215 = .ok (.iload 12, 2) := by decide +kernel
theorem dL_law_217 : decode cL_law 217 = .ok (.if_icmp .ne 32, 3) := by decide +kernel
theorem dL_law_220 : decode cL_law 220 = .ok (.aload_n 1, 1) := by decide +kernel
theorem dL_law_221 : decode cL_law 221 = .ok (.iload 12, 2) := by decide +kernel
theorem dL_law_223 : decode cL_law 223 = .ok (.invokevirtual 126, 3) := by decide +kernel
theorem dL_law_226 : decode cL_law 226 = .ok (.ifCond .lt 23, 3) := by decide +kernel
theorem dL_law_229 : decode cL_law 229 = .ok (.aload_n 1, 1) := by decide +kernel
theorem dL_law_230 : decode cL_law 230 = .ok (.iload 12, 2) := by decide +kernel
theorem dL_law_232 : decode cL_law 232 = .ok (.invokevirtual 126, 3) := by decide +kernel
theorem dL_law_235 : decode cL_law 235 = .ok (.iconst 3, 1) := by decide +kernel
theorem dL_law_236 : decode cL_law 236 = .ok (.if_icmp .gt 13, 3) := by decide +kernel
theorem dL_law_239 : decode cL_law 239 = .ok (.aload_n 1, 1) := by decide +kernel
theorem dL_law_240 : decode cL_law 240 = .ok (.iload 12, 2) := by decide +kernel
theorem dL_law_242 : decode cL_law 242 = .ok (.invokevirtual 129, 3) := by decide +kernel
theorem dL_law_245 : decode cL_law 245 = .ok (.iconst 3, 1) := by decide +kernel
theorem dL_law_246 : decode cL_law 246 = .ok (.if_icmp .le 5, 3) := by decide +kernel
theorem dL_law_249 : decode cL_law 249 = .ok (.iconst 0, 1) := by decide +kernel
theorem dL_law_250 : decode cL_law 250 = .ok (.ireturn, 1) := by decide +kernel
theorem dL_law_251 : decode cL_law 251 = .ok (.aload 8, 2) := by decide +kernel
theorem dL_law_253 : decode cL_law 253 = .ok (.iload 13, 2) := by decide +kernel
theorem dL_law_255 : decode cL_law 255 = .ok (.dup2, 1) := by decide +kernel
theorem dL_law_256 : decode cL_law 256 = .ok (.iaload, 1) := by decide +kernel
theorem dL_law_257 : decode cL_law 257 = .ok (.iconst 1, 1) := by decide +kernel
theorem dL_law_258 : decode cL_law 258 = .ok (.iadd, 1) := by decide +kernel
theorem dL_law_259 : decode cL_law 259 = .ok (.iastore, 1) := by decide +kernel
theorem dL_law_260 : decode cL_law 260 = .ok (.iload 15, 2) := by decide +kernel
theorem dL_law_262 : decode cL_law 262 = .ok (.ifCond .lt 12, 3) := by decide +kernel
theorem dL_law_265 : decode cL_law 265 = .ok (.aload 9, 2) := by decide +kernel
theorem dL_law_267 : decode cL_law 267 = .ok (.iload 15, 2) := by decide +kernel
theorem dL_law_269 : decode cL_law 269 = .ok (.dup2, 1) := by decide +kernel
theorem dL_law_270 : decode cL_law 270 = .ok (.iaload, 1) := by decide +kernel
theorem dL_law_271 : decode cL_law 271 = .ok (.iconst 1, 1) := by decide +kernel
theorem dL_law_272 : decode cL_law 272 = .ok (.iadd, 1) := by decide +kernel
theorem dL_law_273 : decode cL_law 273 = .ok (.iastore, 1) := by decide +kernel
theorem dL_law_274 : decode cL_law 274 = .ok (.aload_n 1, 1) := by decide +kernel
theorem dL_law_275 : decode cL_law 275 = .ok (.iload 12, 2) := by decide +kernel
theorem dL_law_277 : decode cL_law 277 = .ok (.invokevirtual 132, 3) := by decide +kernel
theorem dL_law_280 : decode cL_law 280 = .ok (.ifCond .eq 19, 3) := by decide +kernel
theorem dL_law_283 : decode cL_law 283 = .ok (.iload 15, 2) := by decide +kernel
theorem dL_law_285 : decode cL_law 285 = .ok (.ifCond .ge 5, 3) := by decide +kernel
theorem dL_law_288 : decode cL_law 288 = .ok (.iconst 0, 1) := by decide +kernel
theorem dL_law_289 : decode cL_law 289 = .ok (.ireturn, 1) := by decide +kernel
theorem dL_law_290 : decode cL_law 290 = .ok (.aload 10, 2) := by decide +kernel
theorem dL_law_292 : decode cL_law 292 = .ok (.iload 15, 2) := by decide +kernel
theorem dL_law_294 : decode cL_law 294 = .ok (.dup2, 1) := by decide +kernel
theorem dL_law_295 : decode cL_law 295 = .ok (.iaload, 1) := by decide +kernel
theorem dL_law_296 : decode cL_law 296 = .ok (.iconst 1, 1) := by decide +kernel
theorem dL_law_297 : decode cL_law 297 = .ok (.iadd, 1) := by decide +kernel
theorem dL_law_298 : decode cL_law 298 = .ok (.iastore, 1) := by decide +kernel
theorem dL_law_299 : decode cL_law 299 = .ok (.aload_n 1, 1) := by decide +kernel
theorem dL_law_300 : decode cL_law 300 = .ok (.iload 12, 2) := by decide +kernel
theorem dL_law_302 : decode cL_law 302 = .ok (.invokevirtual 133, 3) := by decide +kernel
theorem dL_law_305 : decode cL_law 305 = .ok (.ifCond .ne 6, 3) := by decide +kernel
theorem dL_law_308 : decode cL_law 308 = .ok (.goto 27, 3) := by decide +kernel
theorem dL_law_311 : decode cL_law 311 = .ok (.iinc 11 1, 3) := by decide +kernel
theorem dL_law_314 : decode cL_law 314 = .ok (.iload 13, 2) := by decide +kernel
theorem dL_law_316 : decode cL_law 316 = .ok (.iconst 5, 1) := by decide +kernel
theorem dL_law_317 : decode cL_law 317 = .ok (.if_icmp .eq 16, 3) := by decide +kernel
theorem dL_law_320 : decode cL_law 320 = .ok (.aload_n 1, 1) := by decide +kernel
theorem dL_law_321 : decode cL_law 321 = .ok (.aload_n 1, 1) := by decide +kernel
theorem dL_law_322 : decode cL_law 322 = .ok (.iload 12, 2) := by decide +kernel
theorem dL_law_324 : decode cL_law 324 = .ok (.invokevirtual 136, 3) := by decide +kernel
theorem dL_law_327 : decode cL_law 327 = .ok (.invokevirtual 139, 3) := by decide +kernel
theorem dL_law_330 : decode cL_law 330 = .ok (.ifCond .ne 5, 3) := by decide +kernel
theorem dL_law_333 : decode cL_law 333 = .ok (.iconst 0, 1) := by decide +kernel
theorem dL_law_334 : decode cL_law 334 = .ok (.ireturn, 1) := by decide +kernel
theorem dL_law_335 : decode cL_law 335 = .ok (.iinc 12 1, 3) := by decide +kernel
theorem dL_law_338 : decode cL_law 338 = .ok (.goto (-224), 3) := by decide +kernel
theorem dL_law_341 : decode cL_law 341 = .ok (.aload 8, 2) := by decide +kernel
theorem dL_law_343 : decode cL_law 343 = .ok (.iconst 0, 1) := by decide +kernel
theorem dL_law_344 : decode cL_law 344 = .ok (.iaload, 1) := by decide +kernel
theorem dL_law_345 : decode cL_law 345 = .ok (.aload_n 1, 1) := by decide +kernel
theorem dL_law_346 : decode cL_law 346 = .ok (.invokevirtual 142, 3) := by decide +kernel
theorem dL_law_349 : decode cL_law 349 = .ok (.if_icmp .ne 46, 3) := by decide +kernel
theorem dL_law_352 : decode cL_law 352 = .ok (.aload 8, 2) := by decide +kernel
theorem dL_law_354 : decode cL_law 354 = .ok (.iconst 1, 1) := by decide +kernel
theorem dL_law_355 : decode cL_law 355 = .ok (.iaload, 1) := by decide +kernel
theorem dL_law_356 : decode cL_law 356 = .ok (.aload_n 1, 1) := by decide +kernel
theorem dL_law_357 : decode cL_law 357 = .ok (.invokevirtual 145, 3) := by decide +kernel
theorem dL_law_360 : decode cL_law 360 = .ok (.if_icmp .ne 35, 3) := by decide +kernel
theorem dL_law_363 : decode cL_law 363 = .ok (.aload 8, 2) := by decide +kernel
theorem dL_law_365 : decode cL_law 365 = .ok (.iconst 3, 1) := by decide +kernel
theorem dL_law_366 : decode cL_law 366 = .ok (.iaload, 1) := by decide +kernel
theorem dL_law_367 : decode cL_law 367 = .ok (.aload_n 1, 1) := by decide +kernel
theorem dL_law_368 : decode cL_law 368 = .ok (.invokevirtual 148, 3) := by decide +kernel
theorem dL_law_371 : decode cL_law 371 = .ok (.if_icmp .ne 24, 3) := by decide +kernel
theorem dL_law_374 : decode cL_law 374 = .ok (.iload 11, 2) := by decide +kernel
theorem dL_law_376 : decode cL_law 376 = .ok (.aload_n 1, 1) := by decide +kernel
theorem dL_law_377 : decode cL_law 377 = .ok (.invokevirtual 151, 3) := by decide +kernel
theorem dL_law_380 : decode cL_law 380 = .ok (.if_icmp .ne 15, 3) := by decide +kernel
theorem dL_law_383 : decode cL_law 383 = .ok (.iload 11, 2) := by decide +kernel
theorem dL_law_385 : decode cL_law 385 = .ok (.aload_n 1, 1) := by decide +kernel
theorem dL_law_386 : decode cL_law 386 = .ok (.invokevirtual 154, 3) := by decide +kernel
theorem dL_law_389 : decode cL_law 389 = .ok (.iadd, 1) := by decide +kernel
theorem dL_law_390 : decode cL_law 390 = .ok (.iload 7, 2) := by decide +kernel
theorem dL_law_392 : decode cL_law 392 = .ok (.if_icmp .le 5, 3) := by decide +kernel
theorem dL_law_395 : decode cL_law 395 = .ok (.iconst 0, 1) := by decide +kernel
theorem dL_law_396 : decode cL_law 396 = .ok (.ireturn, 1) := by decide +kernel
theorem dL_law_397 : decode cL_law 397 = .ok (.iconst 0, 1) := by decide +kernel
theorem dL_law_398 : decode cL_law 398 = .ok (.istore 12, 2) := by decide +kernel
theorem dL_law_400 : decode cL_law 400 = .ok (.iconst 0, 1) := by decide +kernel
theorem dL_law_401 : decode cL_law 401 = .ok (.istore 13, 2) := by decide +kernel
theorem dL_law_403 : decode cL_law 403 = .ok (.iload 13, 2) := by decide +kernel
theorem dL_law_405 : decode cL_law 405 = .ok (.bipush 12, 2) := by decide +kernel
theorem dL_law_407 : decode cL_law 407 = .ok (.if_icmp .ge 50, 3) := by decide +kernel
theorem dL_law_410 : decode cL_law 410 = .ok (.aload_n 1, 1) := by decide +kernel
theorem dL_law_411 : decode cL_law 411 = .ok (.iload 13, 2) := by decide +kernel
theorem dL_law_413 : decode cL_law 413 = .ok (.invokevirtual 123, 3) := by decide +kernel
theorem dL_law_416 : decode cL_law 416 = .ok (.istore 14, 2) := by decide +kernel
theorem dL_law_418 : decode cL_law 418 = .ok (.iload 12, 2) := by decide +kernel
theorem dL_law_420 : decode cL_law 420 = .ok (.iload 14, 2) := by decide +kernel
theorem dL_law_422 : decode cL_law 422 = .ok (.ifCond .lt 7, 3) := by decide +kernel
theorem dL_law_425 : decode cL_law 425 = .ok (.iconst 1, 1) := by decide +kernel
theorem dL_law_426 : decode cL_law 426 = .ok (.goto 4, 3) := by decide +kernel
theorem dL_law_429 : decode cL_law 429 = .ok (.iconst 0, 1) := by decide +kernel
theorem dL_law_430 : decode cL_law 430 = .ok (.iadd, 1) := by decide +kernel
theorem dL_law_431 : decode cL_law 431 = .ok (.istore 12, 2) := by decide +kernel
theorem dL_law_433 : decode cL_law 433 = .ok (.iload 14, 2) := by decide +kernel
theorem dL_law_435 : decode cL_law 435 = .ok (.ifCond .lt 16, 3) := by decide +kernel
theorem dL_law_438 : decode cL_law 438 = .ok (.aload_n 1, 1) := by decide +kernel
theorem dL_law_439 : decode cL_law 439 = .ok (.iload 14, 2) := by decide +kernel
theorem dL_law_441 : decode cL_law 441 = .ok (.invokevirtual 117, 3) := by decide +kernel
theorem dL_law_444 : decode cL_law 444 = .ok (.iload 13, 2) := by decide +kernel
theorem dL_law_446 : decode cL_law 446 = .ok (.if_icmp .eq 5, 3) := by decide +kernel
theorem dL_law_449 : decode cL_law 449 = .ok (.iconst 0, 1) := by decide +kernel
theorem dL_law_450 : decode cL_law 450 = .ok (.ireturn, 1) := by decide +kernel
theorem dL_law_451 : decode cL_law 451 = .ok (.iinc 13 1, 3) := by decide +kernel
theorem dL_law_454 : decode cL_law 454 = .ok (.goto (-51), 3) := by decide +kernel
theorem dL_law_457 : decode cL_law 457 = .ok (.iconst 0, 1) := by decide +kernel
theorem dL_law_458 : decode cL_law 458 = .ok (.istore 13, 2) := by decide +kernel
theorem dL_law_460 : decode cL_law 460 = .ok (.iload 13, 2) := by decide +kernel
theorem dL_law_462 : decode cL_law 462 = .ok (.iconst 4, 1) := by decide +kernel
theorem dL_law_463 : decode cL_law 463 = .ok (.if_icmp .ge 52, 3) := by decide +kernel
theorem dL_law_466 : decode cL_law 466 = .ok (.aload_n 1, 1) := by decide +kernel
theorem dL_law_467 : decode cL_law 467 = .ok (.iload 13, 2) := by decide +kernel
theorem dL_law_469 : decode cL_law 469 = .ok (.invokevirtual 157, 3) := by decide +kernel
theorem dL_law_472 : decode cL_law 472 = .ok (.aload 9, 2) := by decide +kernel
theorem dL_law_474 : decode cL_law 474 = .ok (.iload 13, 2) := by decide +kernel
theorem dL_law_476 : decode cL_law 476 = .ok (.iaload, 1) := by decide +kernel
theorem dL_law_477 : decode cL_law 477 = .ok (.if_icmp .ne 30, 3) := by decide +kernel
theorem dL_law_480 : decode cL_law 480 = .ok (.aload_n 1, 1) := by decide +kernel
theorem dL_law_481 : decode cL_law 481 = .ok (.iload 13, 2) := by decide +kernel
theorem dL_law_483 : decode cL_law 483 = .ok (.invokevirtual 160, 3) := by decide +kernel
theorem dL_law_486 : decode cL_law 486 = .ok (.aload 10, 2) := by decide +kernel
theorem dL_law_488 : decode cL_law 488 = .ok (.iload 13, 2) := by decide +kernel
theorem dL_law_490 : decode cL_law 490 = .ok (.iaload, 1) := by decide +kernel
theorem dL_law_491 : decode cL_law 491 = .ok (.if_icmp .ne 16, 3) := by decide +kernel
theorem dL_law_494 : decode cL_law 494 = .ok (.aload 10, 2) := by decide +kernel
theorem dL_law_496 : decode cL_law 496 = .ok (.iload 13, 2) := by decide +kernel
theorem dL_law_498 : decode cL_law 498 = .ok (.iaload, 1) := by decide +kernel
theorem dL_law_499 : decode cL_law 499 = .ok (.aload 9, 2) := by decide +kernel
theorem dL_law_501 : decode cL_law 501 = .ok (.iload 13, 2) := by decide +kernel
theorem dL_law_503 : decode cL_law 503 = .ok (.iaload, 1) := by decide +kernel
theorem dL_law_504 : decode cL_law 504 = .ok (.if_icmp .le 5, 3) := by decide +kernel
theorem dL_law_507 : decode cL_law 507 = .ok (.iconst 0, 1) := by decide +kernel
theorem dL_law_508 : decode cL_law 508 = .ok (.ireturn, 1) := by decide +kernel
theorem dL_law_509 : decode cL_law 509 = .ok (.iinc 13 1, 3) := by decide +kernel
theorem dL_law_512 : decode cL_law 512 = .ok (.goto (-52), 3) := by decide +kernel
theorem dL_law_515 : decode cL_law 515 = .ok (.iconst 0, 1) := by decide +kernel
theorem dL_law_516 : decode cL_law 516 = .ok (.istore 13, 2) := by decide +kernel
theorem dL_law_518 : decode cL_law 518 = .ok (.iconst 0, 1) := by decide +kernel
theorem dL_law_519 : decode cL_law 519 = .ok (.istore 14, 2) := by decide +kernel
theorem dL_law_521 : decode cL_law 521 = .ok (.iload 14, 2) := by decide +kernel
theorem dL_law_523 : decode cL_law 523 = .ok (.aload_n 1, 1) := by decide +kernel
theorem dL_law_524 : decode cL_law 524 = .ok (.invokevirtual 163, 3) := by decide +kernel
theorem dL_law_527 : decode cL_law 527 = .ok (.if_icmp .ge 47, 3) := by decide +kernel
theorem dL_law_530 : decode cL_law 530 = .ok (.aload_n 1, 1) := by decide +kernel
theorem dL_law_531 : decode cL_law 531 = .ok (.iload 14, 2) := by decide +kernel
theorem dL_law_533 : decode cL_law 533 = .ok (.invokevirtual 165, 3) := by decide +kernel
theorem dL_law_536 : decode cL_law 536 = .ok (.ifCond .lt 12, 3) := by decide +kernel
theorem dL_law_539 : decode cL_law 539 = .ok (.aload_n 1, 1) := by decide +kernel
theorem dL_law_540 : decode cL_law 540 = .ok (.iload 14, 2) := by decide +kernel
theorem dL_law_542 : decode cL_law 542 = .ok (.invokevirtual 168, 3) := by decide +kernel
theorem dL_law_545 : decode cL_law 545 = .ok (.ifCond .ge 5, 3) := by decide +kernel
theorem dL_law_548 : decode cL_law 548 = .ok (.iconst 0, 1) := by decide +kernel
theorem dL_law_549 : decode cL_law 549 = .ok (.ireturn, 1) := by decide +kernel
theorem dL_law_550 : decode cL_law 550 = .ok (.iload 13, 2) := by decide +kernel
theorem dL_law_552 : decode cL_law 552 = .ok (.aload_n 1, 1) := by decide +kernel
theorem dL_law_553 : decode cL_law 553 = .ok (.iload 14, 2) := by decide +kernel
theorem dL_law_555 : decode cL_law 555 = .ok (.invokevirtual 165, 3) := by decide +kernel
theorem dL_law_558 : decode cL_law 558 = .ok (.aload_n 1, 1) := by decide +kernel
theorem dL_law_559 : decode cL_law 559 = .ok (.iload 14, 2) := by decide +kernel
theorem dL_law_561 : decode cL_law 561 = .ok (.invokevirtual 168, 3) := by decide +kernel
theorem dL_law_564 : decode cL_law 564 = .ok (.iadd, 1) := by decide +kernel
theorem dL_law_565 : decode cL_law 565 = .ok (.iadd, 1) := by decide +kernel
theorem dL_law_566 : decode cL_law 566 = .ok (.istore 13, 2) := by decide +kernel
theorem dL_law_568 : decode cL_law 568 = .ok (.iinc 14 1, 3) := by decide +kernel
theorem dL_law_571 : decode cL_law 571 = .ok (.goto (-50), 3) := by decide +kernel
theorem dL_law_574 : decode cL_law 574 = .ok (.iload 12, 2) := by decide +kernel
theorem dL_law_576 : decode cL_law 576 = .ok (.aload_n 1, 1) := by decide +kernel
theorem dL_law_577 : decode cL_law 577 = .ok (.invokevirtual 145, 3) := by decide +kernel
theorem dL_law_580 : decode cL_law 580 = .ok (.if_icmp .ne 20, 3) := by decide +kernel
theorem dL_law_583 : decode cL_law 583 = .ok (.iload 13, 2) := by decide +kernel
theorem dL_law_585 : decode cL_law 585 = .ok (.iload 7, 2) := by decide +kernel
theorem dL_law_587 : decode cL_law 587 = .ok (.if_icmp .ne 13, 3) := by decide +kernel
theorem dL_law_590 : decode cL_law 590 = .ok (.aload_n 1, 1) := by decide +kernel
theorem dL_law_591 : decode cL_law 591 = .ok (.invokevirtual 108, 3) := by decide +kernel
theorem dL_law_594 : decode cL_law 594 = .ok (.lload 5, 2) := by decide +kernel
theorem dL_law_596 : decode cL_law 596 = .ok (.lcmp, 1) := by decide +kernel
theorem dL_law_597 : decode cL_law 597 = .ok (.ifCond .eq 5, 3) := by decide +kernel
theorem dL_law_600 : decode cL_law 600 = .ok (.iconst 0, 1) := by decide +kernel
theorem dL_law_601 : decode cL_law 601 = .ok (.ireturn, 1) := by decide +kernel
theorem dL_law_602 : decode cL_law 602 = .ok (.iconst 1, 1) := by decide +kernel
theorem dL_law_603 : decode cL_law 603 = .ok (.iload 4, 2) := by decide +kernel
theorem dL_law_605 : decode cL_law 605 = .ok (.iconst 4, 1) := by decide +kernel
theorem dL_law_606 : decode cL_law 606 = .ok (.ishr, 1) := by decide +kernel
theorem dL_law_607 : decode cL_law 607 = .ok (.bipush 9, 2) := by decide +kernel
theorem dL_law_609 : decode cL_law 609 = .ok (.invokestatic 15, 3) := by decide +kernel
theorem dL_law_612 : decode cL_law 612 = .ok (.iadd, 1) := by decide +kernel
theorem dL_law_613 : decode cL_law 613 = .ok (.istore 14, 2) := by decide +kernel
theorem dL_law_615 : decode cL_law 615 = .ok (.iload 4, 2) := by decide +kernel
theorem dL_law_617 : decode cL_law 617 = .ok (.bipush 6, 2) := by decide +kernel
theorem dL_law_619 : decode cL_law 619 = .ok (.ishr, 1) := by decide +kernel
theorem dL_law_620 : decode cL_law 620 = .ok (.aload_n 1, 1) := by decide +kernel
theorem dL_law_621 : decode cL_law 621 = .ok (.invokevirtual 163, 3) := by decide +kernel
theorem dL_law_624 : decode cL_law 624 = .ok (.invokestatic 15, 3) := by decide +kernel
theorem dL_law_627 : decode cL_law 627 = .ok (.istore 15, 2) := by decide +kernel
theorem dL_law_629 : decode cL_law 629 = .ok (.aload_n 1, 1) := by decide +kernel
theorem dL_law_630 : decode cL_law 630 = .ok (.iload 15, 2) := by decide +kernel
theorem dL_law_632 : decode cL_law 632 = .ok (.iload 14, 2) := by decide +kernel
theorem dL_law_634 : decode cL_law 634 = .ok (.invokevirtual 171, 3) := by decide +kernel
theorem dL_law_637 : decode cL_law 637 = .ok (.istore 16, 2) := by decide +kernel
theorem dL_law_639 : decode cL_law 639 = .ok (.iload 7, 2) := by decide +kernel
theorem dL_law_641 : decode cL_law 641 = .ok (.newarray .int, 2) := by decide +kernel
theorem dL_law_643 : decode cL_law 643 = .ok (.astore 17, 2) := by decide +kernel
theorem dL_law_645 : decode cL_law 645 = .ok (.iload 7, 2) := by decide +kernel
theorem dL_law_647 : decode cL_law 647 = .ok (.newarray .int, 2) := by decide +kernel
theorem dL_law_649 : decode cL_law 649 = .ok (.astore 18, 2) := by decide +kernel
theorem dL_law_651 : decode cL_law 651 = .ok (.iload 7, 2) := by decide +kernel
theorem dL_law_653 : decode cL_law 653 = .ok (.newarray .int, 2) := by decide +kernel
theorem dL_law_655 : decode cL_law 655 = .ok (.astore 19, 2) := by decide +kernel
theorem dL_law_657 : decode cL_law 657 = .ok (.iload 7, 2) := by decide +kernel
theorem dL_law_659 : decode cL_law 659 = .ok (.newarray .int, 2) := by decide +kernel
theorem dL_law_661 : decode cL_law 661 = .ok (.astore 20, 2) := by decide +kernel
theorem dL_law_663 : decode cL_law 663 = .ok (.iload 7, 2) := by decide +kernel
theorem dL_law_665 : decode cL_law 665 = .ok (.newarray .boolean, 2) := by decide +kernel
theorem dL_law_667 : decode cL_law 667 = .ok (.astore 21, 2) := by decide +kernel
theorem dL_law_669 : decode cL_law 669 = .ok (.iconst 0, 1) := by decide +kernel
theorem dL_law_670 : decode cL_law 670 = .ok (.istore 22, 2) := by decide +kernel
theorem dL_law_672 : decode cL_law 672 = .ok (.iload 22, 2) := by decide +kernel
theorem dL_law_674 : decode cL_law 674 = .ok (.iload 7, 2) := by decide +kernel
theorem dL_law_676 : decode cL_law 676 = .ok (.if_icmp .ge 114, 3) := by decide +kernel
theorem dL_law_679 : decode cL_law 679 = .ok (.aload 17, 2) := by decide +kernel
theorem dL_law_681 : decode cL_law 681 = .ok (.iload 22, 2) := by decide +kernel
theorem dL_law_683 : decode cL_law 683 = .ok (.aload_n 1, 1) := by decide +kernel
theorem dL_law_684 : decode cL_law 684 = .ok (.iload 22, 2) := by decide +kernel
theorem dL_law_686 : decode cL_law 686 = .ok (.invokevirtual 174, 3) := by decide +kernel
theorem dL_law_689 : decode cL_law 689 = .ok (.iastore, 1) := by decide +kernel
theorem dL_law_690 : decode cL_law 690 = .ok (.aload 18, 2) := by decide +kernel
theorem dL_law_692 : decode cL_law 692 = .ok (.iload 22, 2) := by decide +kernel
theorem dL_law_694 : decode cL_law 694 = .ok (.aload_n 1, 1) := by decide +kernel
theorem dL_law_695 : decode cL_law 695 = .ok (.iload 22, 2) := by decide +kernel
theorem dL_law_697 : decode cL_law 697 = .ok (.invokevirtual 114, 3) := by decide +kernel
theorem dL_law_700 : decode cL_law 700 = .ok (.iastore, 1) := by decide +kernel
theorem dL_law_701 : decode cL_law 701 = .ok (.aload 19, 2) := by decide +kernel
theorem dL_law_703 : decode cL_law 703 = .ok (.iload 22, 2) := by decide +kernel
theorem dL_law_705 : decode cL_law 705 = .ok (.aload_n 1, 1) := by decide +kernel
theorem dL_law_706 : decode cL_law 706 = .ok (.iload 22, 2) := by decide +kernel
theorem dL_law_708 : decode cL_law 708 = .ok (.invokevirtual 129, 3) := by decide +kernel
theorem dL_law_711 : decode cL_law 711 = .ok (.iastore, 1) := by decide +kernel
theorem dL_law_712 : decode cL_law 712 = .ok (.aload 20, 2) := by decide +kernel
theorem dL_law_714 : decode cL_law 714 = .ok (.iload 22, 2) := by decide +kernel
theorem dL_law_716 : decode cL_law 716 = .ok (.aload_n 1, 1) := by decide +kernel
theorem dL_law_717 : decode cL_law 717 = .ok (.iload 22, 2) := by decide +kernel
theorem dL_law_719 : decode cL_law 719 = .ok (.invokevirtual 126, 3) := by decide +kernel
theorem dL_law_722 : decode cL_law 722 = .ok (.iastore, 1) := by decide +kernel
theorem dL_law_723 : decode cL_law 723 = .ok (.aload 21, 2) := by decide +kernel
theorem dL_law_725 : decode cL_law 725 = .ok (.iload 22, 2) := by decide +kernel
theorem dL_law_727 : decode cL_law 727 = .ok (.aload_n 1, 1) := by decide +kernel
theorem dL_law_728 : decode cL_law 728 = .ok (.iload 22, 2) := by decide +kernel
theorem dL_law_730 : decode cL_law 730 = .ok (.invokevirtual 133, 3) := by decide +kernel
theorem dL_law_733 : decode cL_law 733 = .ok (.bastore, 1) := by decide +kernel
theorem dL_law_734 : decode cL_law 734 = .ok (.aload 17, 2) := by decide +kernel
theorem dL_law_736 : decode cL_law 736 = .ok (.iload 22, 2) := by decide +kernel
theorem dL_law_738 : decode cL_law 738 = .ok (.iaload, 1) := by decide +kernel
theorem dL_law_739 : decode cL_law 739 = .ok (.ifCond .ne 7, 3) := by decide +kernel
theorem dL_law_742 : decode cL_law 742 = .ok (.iconst 1, 1) := by decide +kernel
theorem dL_law_743 : decode cL_law 743 = .ok (.goto 4, 3) := by decide +kernel
theorem dL_law_746 : decode cL_law 746 = .ok (.iconst 0, 1) := by decide +kernel
theorem dL_law_747 : decode cL_law 747 = .ok (.aload 18, 2) := by decide +kernel
theorem dL_law_749 : decode cL_law 749 = .ok (.iload 22, 2) := by decide +kernel
theorem dL_law_751 : decode cL_law 751 = .ok (.iaload, 1) := by decide +kernel
theorem dL_law_752 : decode cL_law 752 = .ok (.iconst 2, 1) := by decide +kernel
theorem dL_law_753 : decode cL_law 753 = .ok (.if_icmp .ne 7, 3) := by decide +kernel
theorem dL_law_756 : decode cL_law 756 = .ok (.iconst 1, 1) := by decide +kernel
theorem dL_law_757 : decode cL_law 757 = .ok (.goto 4, 3) := by decide +kernel
theorem dL_law_760 : decode cL_law 760 = .ok (.iconst 0, 1) := by decide +kernel
theorem dL_law_761 : decode cL_law 761 = .ok (.if_icmp .ne 21, 3) := by decide +kernel
theorem dL_law_764 : decode cL_law 764 = .ok (.aload 18, 2) := by decide +kernel
theorem dL_law_766 : decode cL_law 766 = .ok (.iload 22, 2) := by decide +kernel
theorem dL_law_768 : decode cL_law 768 = .ok (.iaload, 1) := by decide +kernel
theorem dL_law_769 : decode cL_law 769 = .ok (.iconst 2, 1) := by decide +kernel
theorem dL_law_770 : decode cL_law 770 = .ok (.if_icmp .le 14, 3) := by decide +kernel
theorem dL_law_773 : decode cL_law 773 = .ok (.aload 17, 2) := by decide +kernel
theorem dL_law_775 : decode cL_law 775 = .ok (.iload 22, 2) := by decide +kernel
theorem dL_law_777 : decode cL_law 777 = .ok (.iaload, 1) := by decide +kernel
theorem dL_law_778 : decode cL_law 778 = .ok (.iconst (-1), 1) := by decide +kernel
theorem dL_law_779 : decode cL_law 779 = .ok (.if_icmp .eq 5, 3) := by decide +kernel
theorem dL_law_782 : decode cL_law 782 = .ok (.iconst 0, 1) := by decide +kernel
theorem dL_law_783 : decode cL_law 783 = .ok (.ireturn, 1) := by decide +kernel
theorem dL_law_784 : decode cL_law 784 = .ok (.iinc 22 1, 3) := by decide +kernel
theorem dL_law_787 : decode cL_law 787 = .ok (.goto (-115), 3) := by decide +kernel
theorem dL_law_790 : decode cL_law 790 = .ok (.aload_n 1, 1) := by decide +kernel
theorem dL_law_791 : decode cL_law 791 = .ok (.invokevirtual 154, 3) := by decide +kernel
theorem dL_law_794 : decode cL_law 794 = .ok (.istore 22, 2) := by decide +kernel
theorem dL_law_796 : decode cL_law 796 = .ok (.aload_n 1, 1) := by decide +kernel
theorem dL_law_797 : decode cL_law 797 = .ok (.invokevirtual 108, 3) := by decide +kernel
theorem dL_law_800 : decode cL_law 800 = .ok (.lload 5, 2) := by decide +kernel
theorem dL_law_802 : decode cL_law 802 = .ok (.lcmp, 1) := by decide +kernel
theorem dL_law_803 : decode cL_law 803 = .ok (.ifCond .eq 5, 3) := by decide +kernel
theorem dL_law_806 : decode cL_law 806 = .ok (.iconst 0, 1) := by decide +kernel
theorem dL_law_807 : decode cL_law 807 = .ok (.ireturn, 1) := by decide +kernel
theorem dL_law_808 : decode cL_law 808 = .ok (.aload_n 1, 1) := by decide +kernel
theorem dL_law_809 : decode cL_law 809 = .ok (.iload 14, 2) := by decide +kernel
theorem dL_law_811 : decode cL_law 811 = .ok (.invokevirtual 88, 3) := by decide +kernel
theorem dL_law_814 : decode cL_law 814 = .ok (.istore 23, 2) := by decide +kernel
theorem dL_law_816 : decode cL_law 816 = .ok (.aload_n 2, 1) := by decide +kernel
theorem dL_law_817 : decode cL_law 817 = .ok (.iload 14, 2) := by decide +kernel
theorem dL_law_819 : decode cL_law 819 = .ok (.invokevirtual 91, 3) := by decide +kernel
theorem dL_law_822 : decode cL_law 822 = .ok (.iload 23, 2) := by decide +kernel
theorem dL_law_824 : decode cL_law 824 = .ok (.if_icmp .ne 32, 3) := by decide +kernel
theorem dL_law_827 : decode cL_law 827 = .ok (.aload_n 1, 1) := by decide +kernel
theorem dL_law_828 : decode cL_law 828 = .ok (.iload 15, 2) := by decide +kernel
theorem dL_law_830 : decode cL_law 830 = .ok (.invokevirtual 165, 3) := by decide +kernel
theorem dL_law_833 : decode cL_law 833 = .ok (.iload 16, 2) := by decide +kernel
theorem dL_law_835 : decode cL_law 835 = .ok (.if_icmp .ne 21, 3) := by decide +kernel
theorem dL_law_838 : decode cL_law 838 = .ok (.aload_n 1, 1) := by decide +kernel
theorem dL_law_839 : decode cL_law 839 = .ok (.invokevirtual 154, 3) := by decide +kernel
theorem dL_law_842 : decode cL_law 842 = .ok (.iload 22, 2) := by decide +kernel
theorem dL_law_844 : decode cL_law 844 = .ok (.if_icmp .ne 12, 3) := by decide +kernel
theorem dL_law_847 : decode cL_law 847 = .ok (.aload_n 1, 1) := by decide +kernel
theorem dL_law_848 : decode cL_law 848 = .ok (.invokevirtual 151, 3) := by decide +kernel
theorem dL_law_851 : decode cL_law 851 = .ok (.iload 11, 2) := by decide +kernel
theorem dL_law_853 : decode cL_law 853 = .ok (.if_icmp .eq 5, 3) := by decide +kernel
theorem dL_law_856 : decode cL_law 856 = .ok (.iconst 0, 1) := by decide +kernel
theorem dL_law_857 : decode cL_law 857 = .ok (.ireturn, 1) := by decide +kernel
theorem dL_law_858 : decode cL_law 858 = .ok (.iconst 0, 1) := by decide +kernel
theorem dL_law_859 : decode cL_law 859 = .ok (.istore 24, 2) := by decide +kernel
theorem dL_law_861 : decode cL_law 861 = .ok (.iconst 0, 1) := by decide +kernel
theorem dL_law_862 : decode cL_law 862 = .ok (.istore 25, 2) := by decide +kernel
theorem dL_law_864 : decode cL_law 864 = .ok (.iload 25, 2) := by decide +kernel
theorem dL_law_866 : decode cL_law 866 = .ok (.iload 7, 2) := by decide +kernel
theorem dL_law_868 : decode cL_law 868 = .ok (.if_icmp .ge 260, 3) := by decide +kernel
theorem dL_law_871 : decode cL_law 871 = .ok (.aload_n 1, 1) := by decide +kernel
theorem dL_law_872 : decode cL_law 872 = .ok (.iload 25, 2) := by decide +kernel
theorem dL_law_874 : decode cL_law 874 = .ok (.invokevirtual 114, 3) := by decide +kernel
theorem dL_law_877 : decode cL_law 877 = .ok (.istore 26, 2) := by decide +kernel
theorem dL_law_879 : decode cL_law 879 = .ok (.aload 17, 2) := by decide +kernel
theorem dL_law_881 : decode cL_law 881 = .ok (.iload 25, 2) := by decide +kernel
theorem dL_law_883 : decode cL_law 883 = .ok (.iaload, 1) := by decide +kernel
theorem dL_law_884 : decode cL_law 884 = .ok (.ifCond .le 17, 3) := by decide +kernel
theorem dL_law_887 : decode cL_law 887 = .ok (.aload 17, 2) := by decide +kernel
theorem dL_law_889 : decode cL_law 889 = .ok (.iload 25, 2) := by decide +kernel
theorem dL_law_891 : decode cL_law 891 = .ok (.iaload, 1) := by decide +kernel
theorem dL_law_892 : decode cL_law 892 = .ok (.iload 14, 2) := by decide +kernel
theorem dL_law_894 : decode cL_law 894 = .ok (.if_icmp .gt 7, 3) := by decide +kernel
theorem dL_law_897 : decode cL_law 897 = .ok (.iconst 1, 1) := by decide +kernel
theorem dL_law_898 : decode cL_law 898 = .ok (.goto 4, 3) := by decide +kernel
theorem dL_law_901 : decode cL_law 901 = .ok (.iconst 0, 1) := by decide +kernel
theorem dL_law_902 : decode cL_law 902 = .ok (.istore 27, 2) := by decide +kernel
theorem dL_law_904 : decode cL_law 904 = .ok (.iload 24, 2) := by decide +kernel
theorem dL_law_906 : decode cL_law 906 = .ok (.iload 27, 2) := by decide +kernel
theorem dL_law_908 : decode cL_law 908 = .ok (.ifCond .eq 7, 3) := by decide +kernel
theorem dL_law_911 : decode cL_law 911 = .ok (.iconst 1, 1) := by decide +kernel
theorem dL_law_912 : decode cL_law 912 = .ok (.goto 4, 3) := by decide +kernel
theorem dL_law_915 : decode cL_law 915 = .ok (.iconst 0, 1) := by decide +kernel
theorem dL_law_916 : decode cL_law 916 = .ok (.iadd, 1) := by decide +kernel
theorem dL_law_917 : decode cL_law 917 = .ok (.istore 24, 2) := by decide +kernel
theorem dL_law_919 : decode cL_law 919 = .ok (.iload 27, 2) := by decide +kernel
theorem dL_law_921 : decode cL_law 921 = .ok (.iload 26, 2) := by decide +kernel
theorem dL_law_923 : decode cL_law 923 = .ok (.iconst 2, 1) := by decide +kernel
theorem dL_law_924 : decode cL_law 924 = .ok (.if_icmp .ne 16, 3) := by decide +kernel
theorem dL_law_927 : decode cL_law 927 = .ok (.aload 18, 2) := by decide +kernel
theorem dL_law_929 : decode cL_law 929 = .ok (.iload 25, 2) := by decide +kernel
theorem dL_law_931 : decode cL_law 931 = .ok (.iaload, 1) := by decide +kernel
theorem dL_law_932 : decode cL_law 932 = .ok (.iconst 2, 1) := by decide +kernel
theorem dL_law_933 : decode cL_law 933 = .ok (.if_icmp .eq 7, 3) := by decide +kernel
theorem dL_law_936 : decode cL_law 936 = .ok (.iconst 1, 1) := by decide +kernel
theorem dL_law_937 : decode cL_law 937 = .ok (.goto 4, 3) := by decide +kernel
theorem dL_law_940 : decode cL_law 940 = .ok (.iconst 0, 1) := by decide +kernel
theorem dL_law_941 : decode cL_law 941 = .ok (.if_icmp .ne 49, 3) := by decide +kernel
theorem dL_law_944 : decode cL_law 944 = .ok (.aload 18, 2) := by decide +kernel
theorem dL_law_946 : decode cL_law 946 = .ok (.iload 25, 2) := by decide +kernel
theorem dL_law_948 : decode cL_law 948 = .ok (.iaload, 1) := by decide +kernel
theorem dL_law_949 : decode cL_law 949 = .ok (.iconst 1, 1) := by decide +kernel
theorem dL_law_950 : decode cL_law 950 = .ok (.if_icmp .le 13, 3) := by decide +kernel
theorem dL_law_953 : decode cL_law 953 = .ok (.iload 26, 2) := by decide +kernel
theorem dL_law_955 : decode cL_law 955 = .ok (.aload 18, 2) := by decide +kernel
theorem dL_law_957 : decode cL_law 957 = .ok (.iload 25, 2) := by decide +kernel
theorem dL_law_959 : decode cL_law 959 = .ok (.iaload, 1) := by decide +kernel
theorem dL_law_960 : decode cL_law 960 = .ok (.if_icmp .ne 30, 3) := by decide +kernel
theorem dL_law_963 : decode cL_law 963 = .ok (.iload 26, 2) := by decide +kernel
theorem dL_law_965 : decode cL_law 965 = .ok (.ifCond .ne 11, 3) := by decide +kernel
theorem dL_law_968 : decode cL_law 968 = .ok (.aload 18, 2) := by decide +kernel
theorem dL_law_970 : decode cL_law 970 = .ok (.iload 25, 2) := by decide +kernel
theorem dL_law_972 : decode cL_law 972 = .ok (.iaload, 1) := by decide +kernel
theorem dL_law_973 : decode cL_law 973 = .ok (.ifCond .ne 17, 3) := by decide +kernel
theorem dL_law_976 : decode cL_law 976 = .ok (.aload_n 1, 1) := by decide +kernel
theorem dL_law_977 : decode cL_law 977 = .ok (.iload 25, 2) := by decide +kernel
theorem dL_law_979 : decode cL_law 979 = .ok (.invokevirtual 133, 3) := by decide +kernel
theorem dL_law_982 : decode cL_law 982 = .ok (.aload 21, 2) := by decide +kernel
theorem dL_law_984 : decode cL_law 984 = .ok (.iload 25, 2) := by decide +kernel
theorem dL_law_986 : decode cL_law 986 = .ok (.baload, 1) := by decide +kernel
theorem dL_law_987 : decode cL_law 987 = .ok (.if_icmp .eq 5, 3) := by decide +kernel
theorem dL_law_990 : decode cL_law 990 = .ok (.iconst 0, 1) := by decide +kernel
theorem dL_law_991 : decode cL_law 991 = .ok (.ireturn, 1) := by decide +kernel
theorem dL_law_992 : decode cL_law 992 = .ok (.aload 19, 2) := by decide +kernel
theorem dL_law_994 : decode cL_law 994 = .ok (.iload 25, 2) := by decide +kernel
theorem dL_law_996 : decode cL_law 996 = .ok (.iaload, 1) := by decide +kernel
theorem dL_law_997 : decode cL_law 997 = .ok (.ifCond .lt 17, 3) := by decide +kernel
theorem dL_law_1000 : decode cL_law 1000 = .ok (.aload_n 1, 1) := by decide +kernel
theorem dL_law_1001 : decode cL_law 1001 = .ok (.iload 25, 2) := by decide +kernel
theorem dL_law_1003 : decode cL_law 1003 = .ok (.invokevirtual 129, 3) := by decide +kernel
theorem dL_law_1006 : decode cL_law 1006 = .ok (.aload 19, 2) := by decide +kernel
theorem dL_law_1008 : decode cL_law 1008 = .ok (.iload 25, 2) := by decide +kernel
theorem dL_law_1010 : decode cL_law 1010 = .ok (.iaload, 1) := by decide +kernel
theorem dL_law_1011 : decode cL_law 1011 = .ok (.if_icmp .ne 109, 3) := by decide +kernel
theorem dL_law_1014 : decode cL_law 1014 = .ok (.aload_n 1, 1) := by decide +kernel
theorem dL_law_1015 : decode cL_law 1015 = .ok (.iload 25, 2) := by decide +kernel
theorem dL_law_1017 : decode cL_law 1017 = .ok (.invokevirtual 126, 3) := by decide +kernel
theorem dL_law_1020 : decode cL_law 1020 = .ok (.aload 20, 2) := by decide +kernel
theorem dL_law_1022 : decode cL_law 1022 = .ok (.iload 25, 2) := by decide +kernel
theorem dL_law_1024 : decode cL_law 1024 = .ok (.iaload, 1) := by decide +kernel
theorem dL_law_1025 : decode cL_law 1025 = .ok (.if_icmp .lt 95, 3) := by decide +kernel
theorem dL_law_1028 : decode cL_law 1028 = .ok (.aload 18, 2) := by decide +kernel
theorem dL_law_1030 : decode cL_law 1030 = .ok (.iload 25, 2) := by decide +kernel
theorem dL_law_1032 : decode cL_law 1032 = .ok (.iaload, 1) := by decide +kernel
theorem dL_law_1033 : decode cL_law 1033 = .ok (.iconst 1, 1) := by decide +kernel
theorem dL_law_1034 : decode cL_law 1034 = .ok (.if_icmp .le 31, 3) := by decide +kernel
theorem dL_law_1037 : decode cL_law 1037 = .ok (.aload_n 1, 1) := by decide +kernel
theorem dL_law_1038 : decode cL_law 1038 = .ok (.iload 25, 2) := by decide +kernel
theorem dL_law_1040 : decode cL_law 1040 = .ok (.invokevirtual 129, 3) := by decide +kernel
theorem dL_law_1043 : decode cL_law 1043 = .ok (.aload 19, 2) := by decide +kernel
theorem dL_law_1045 : decode cL_law 1045 = .ok (.iload 25, 2) := by decide +kernel
theorem dL_law_1047 : decode cL_law 1047 = .ok (.iaload, 1) := by decide +kernel
theorem dL_law_1048 : decode cL_law 1048 = .ok (.if_icmp .ne 72, 3) := by decide +kernel
theorem dL_law_1051 : decode cL_law 1051 = .ok (.aload_n 1, 1) := by decide +kernel
theorem dL_law_1052 : decode cL_law 1052 = .ok (.iload 25, 2) := by decide +kernel
theorem dL_law_1054 : decode cL_law 1054 = .ok (.invokevirtual 126, 3) := by decide +kernel
theorem dL_law_1057 : decode cL_law 1057 = .ok (.aload 20, 2) := by decide +kernel
theorem dL_law_1059 : decode cL_law 1059 = .ok (.iload 25, 2) := by decide +kernel
theorem dL_law_1061 : decode cL_law 1061 = .ok (.iaload, 1) := by decide +kernel
theorem dL_law_1062 : decode cL_law 1062 = .ok (.if_icmp .ne 58, 3) := by decide +kernel
theorem dL_law_1065 : decode cL_law 1065 = .ok (.iload 26, 2) := by decide +kernel
theorem dL_law_1067 : decode cL_law 1067 = .ok (.iconst 2, 1) := by decide +kernel
theorem dL_law_1068 : decode cL_law 1068 = .ok (.if_icmp .ne 27, 3) := by decide +kernel
theorem dL_law_1071 : decode cL_law 1071 = .ok (.aload 18, 2) := by decide +kernel
theorem dL_law_1073 : decode cL_law 1073 = .ok (.iload 25, 2) := by decide +kernel
theorem dL_law_1075 : decode cL_law 1075 = .ok (.iaload, 1) := by decide +kernel
theorem dL_law_1076 : decode cL_law 1076 = .ok (.iconst 2, 1) := by decide +kernel
theorem dL_law_1077 : decode cL_law 1077 = .ok (.if_icmp .ge 18, 3) := by decide +kernel
theorem dL_law_1080 : decode cL_law 1080 = .ok (.aload_n 1, 1) := by decide +kernel
theorem dL_law_1081 : decode cL_law 1081 = .ok (.iload 25, 2) := by decide +kernel
theorem dL_law_1083 : decode cL_law 1083 = .ok (.invokevirtual 120, 3) := by decide +kernel
theorem dL_law_1086 : decode cL_law 1086 = .ok (.aload_n 1, 1) := by decide +kernel
theorem dL_law_1087 : decode cL_law 1087 = .ok (.iload 25, 2) := by decide +kernel
theorem dL_law_1089 : decode cL_law 1089 = .ok (.invokevirtual 129, 3) := by decide +kernel
theorem dL_law_1092 : decode cL_law 1092 = .ok (.if_icmp .ne 28, 3) := by decide +kernel
theorem dL_law_1095 : decode cL_law 1095 = .ok (.iload 26, 2) := by decide +kernel
theorem dL_law_1097 : decode cL_law 1097 = .ok (.iconst 3, 1) := by decide +kernel
theorem dL_law_1098 : decode cL_law 1098 = .ok (.if_icmp .ne 24, 3) := by decide +kernel
theorem dL_law_1101 : decode cL_law 1101 = .ok (.aload 18, 2) := by decide +kernel
theorem dL_law_1103 : decode cL_law 1103 = .ok (.iload 25, 2) := by decide +kernel
theorem dL_law_1105 : decode cL_law 1105 = .ok (.iaload, 1) := by decide +kernel
theorem dL_law_1106 : decode cL_law 1106 = .ok (.iconst 1, 1) := by decide +kernel
theorem dL_law_1107 : decode cL_law 1107 = .ok (.if_icmp .ne 15, 3) := by decide +kernel
theorem dL_law_1110 : decode cL_law 1110 = .ok (.aload_n 1, 1) := by decide +kernel
theorem dL_law_1111 : decode cL_law 1111 = .ok (.iload 25, 2) := by decide +kernel
theorem dL_law_1113 : decode cL_law 1113 = .ok (.invokevirtual 126, 3) := by decide +kernel
theorem dL_law_1116 : decode cL_law 1116 = .ok (.iconst 3, 1) := by decide +kernel
theorem dL_law_1117 : decode cL_law 1117 = .ok (.if_icmp .eq 5, 3) := by decide +kernel
theorem dL_law_1120 : decode cL_law 1120 = .ok (.iconst 0, 1) := by decide +kernel
theorem dL_law_1121 : decode cL_law 1121 = .ok (.ireturn, 1) := by decide +kernel
theorem dL_law_1122 : decode cL_law 1122 = .ok (.iinc 25 1, 3) := by decide +kernel
theorem dL_law_1125 : decode cL_law 1125 = .ok (.goto (-261), 3) := by decide +kernel
theorem dL_law_1128 : decode cL_law 1128 = .ok (.iload 24, 2) := by decide +kernel
theorem dL_law_1130 : decode cL_law 1130 = .ok (.iload 23, 2) := by decide +kernel
theorem dL_law_1132 : decode cL_law 1132 = .ok (.if_icmp .eq 5, 3) := by decide +kernel
theorem dL_law_1135 : decode cL_law 1135 = .ok (.iconst 0, 1) := by decide +kernel
theorem dL_law_1136 : decode cL_law 1136 = .ok (.ireturn, 1) := by decide +kernel
theorem dL_law_1137 : decode cL_law 1137 = .ok (.iconst 0, 1) := by decide +kernel
theorem dL_law_1138 : decode cL_law 1138 = .ok (.istore 25, 2) := by decide +kernel
theorem dL_law_1140 : decode cL_law 1140 = .ok (.iload 25, 2) := by decide +kernel
theorem dL_law_1142 : decode cL_law 1142 = .ok (.iconst 4, 1) := by decide +kernel
theorem dL_law_1143 : decode cL_law 1143 = .ok (.if_icmp .ge 54, 3) := by decide +kernel
theorem dL_law_1146 : decode cL_law 1146 = .ok (.aload_n 1, 1) := by decide +kernel
theorem dL_law_1147 : decode cL_law 1147 = .ok (.iload 25, 2) := by decide +kernel
theorem dL_law_1149 : decode cL_law 1149 = .ok (.invokevirtual 157, 3) := by decide +kernel
theorem dL_law_1152 : decode cL_law 1152 = .ok (.aload 9, 2) := by decide +kernel
theorem dL_law_1154 : decode cL_law 1154 = .ok (.iload 25, 2) := by decide +kernel
theorem dL_law_1156 : decode cL_law 1156 = .ok (.iaload, 1) := by decide +kernel
theorem dL_law_1157 : decode cL_law 1157 = .ok (.if_icmp .le 18, 3) := by decide +kernel
theorem dL_law_1160 : decode cL_law 1160 = .ok (.aload_n 1, 1) := by decide +kernel
theorem dL_law_1161 : decode cL_law 1161 = .ok (.iload 25, 2) := by decide +kernel
theorem dL_law_1163 : decode cL_law 1163 = .ok (.invokevirtual 157, 3) := by decide +kernel
theorem dL_law_1166 : decode cL_law 1166 = .ok (.aload_n 1, 1) := by decide +kernel
theorem dL_law_1167 : decode cL_law 1167 = .ok (.iload 25, 2) := by decide +kernel
theorem dL_law_1169 : decode cL_law 1169 = .ok (.invokevirtual 177, 3) := by decide +kernel
theorem dL_law_1172 : decode cL_law 1172 = .ok (.if_icmp .gt 17, 3) := by decide +kernel
theorem dL_law_1175 : decode cL_law 1175 = .ok (.aload_n 1, 1) := by decide +kernel
theorem dL_law_1176 : decode cL_law 1176 = .ok (.iload 25, 2) := by decide +kernel
theorem dL_law_1178 : decode cL_law 1178 = .ok (.invokevirtual 157, 3) := by decide +kernel
theorem dL_law_1181 : decode cL_law 1181 = .ok (.aload 9, 2) := by decide +kernel
theorem dL_law_1183 : decode cL_law 1183 = .ok (.iload 25, 2) := by decide +kernel
theorem dL_law_1185 : decode cL_law 1185 = .ok (.iaload, 1) := by decide +kernel
theorem dL_law_1186 : decode cL_law 1186 = .ok (.if_icmp .ge 5, 3) := by decide +kernel
theorem dL_law_1189 : decode cL_law 1189 = .ok (.iconst 0, 1) := by decide +kernel
theorem dL_law_1190 : decode cL_law 1190 = .ok (.ireturn, 1) := by decide +kernel
theorem dL_law_1191 : decode cL_law 1191 = .ok (.iinc 25 1, 3) := by decide +kernel
theorem dL_law_1194 : decode cL_law 1194 = .ok (.goto (-54), 3) := by decide +kernel
theorem dL_law_1197 : decode cL_law 1197 = .ok (.iinc 3 1, 3) := by decide +kernel
theorem dL_law_1200 : decode cL_law 1200 = .ok (.goto (-1178), 3) := by decide +kernel
theorem dL_law_1203 : decode cL_law 1203 = .ok (.aload_n 2, 1) := by decide +kernel
theorem dL_law_1204 : decode cL_law 1204 = .ok (.aload_n 1, 1) := by decide +kernel
theorem dL_law_1205 : decode cL_law 1205 = .ok (.invokevirtual 180, 3) := by decide +kernel
theorem dL_law_1208 : decode cL_law 1208 = .ok (.ireturn, 1) := by decide +kernel

theorem d_L_law_0 : decode code 0 = .ok (.new 8, 3) := by decide +kernel
theorem d_L_law_3 : decode code 3 = .ok (.dup, 1) := by decide +kernel
theorem d_L_law_4 : decode code 4 = .ok (.invokespecial 76, 3) := by decide +kernel
theorem d_L_law_7 : decode code 7 = .ok (.astore_n 1, 1) := by decide +kernel
theorem d_L_law_8 : decode code 8 = .ok (.new 77, 3) := by decide +kernel
theorem d_L_law_11 : decode code 11 = .ok (.dup, 1) := by decide +kernel
theorem d_L_law_12 : decode code 12 = .ok (.invokespecial 79, 3) := by decide +kernel
theorem d_L_law_15 : decode code 15 = .ok (.astore_n 2, 1) := by decide +kernel
theorem d_L_law_16 : decode code 16 = .ok (.iconst 1, 1) := by decide +kernel
theorem d_L_law_17 : decode code 17 = .ok (.newarray .long, 2) := by decide +kernel
theorem d_L_law_19 : decode code 19 = .ok (.astore_n 3, 1) := by decide +kernel
theorem d_L_law_20 : decode code 20 = .ok (.iconst 0, 1) := by decide +kernel
theorem d_L_law_21 : decode code 21 = .ok (.istore 4, 2) := by decide +kernel
theorem d_L_law_23 : decode code 23 = .ok (.iload 4, 2) := by decide +kernel
theorem d_L_law_25 : decode code 25 = .ok (.aload_n 0, 1) := by decide +kernel
theorem d_L_law_26 : decode code 26 = .ok (.arraylength, 1) := by decide +kernel
theorem d_L_law_27 : decode code 27 = .ok (.bipush 6, 2) := by decide +kernel
theorem d_L_law_29 : decode code 29 = .ok (.isub, 1) := by decide +kernel
theorem d_L_law_30 : decode code 30 = .ok (.if_icmp .gt 1394, 3) := by decide +kernel
theorem d_L_law_33 : decode code 33 = .ok (.aload_n 0, 1) := by decide +kernel
theorem d_L_law_34 : decode code 34 = .ok (.iload 4, 2) := by decide +kernel
theorem d_L_law_36 : decode code 36 = .ok (.iaload, 1) := by decide +kernel
theorem d_L_law_37 : decode code 37 = .ok (.bipush 31, 2) := by decide +kernel
theorem d_L_law_39 : decode code 39 = .ok (.iand, 1) := by decide +kernel
theorem d_L_law_40 : decode code 40 = .ok (.tableswitch 1378 0 18 #[92, 148, 161, 229, 273, 376, 444, 500, 575, 643, 747, 815, 883, 963, 1038, 1118, 1186, 1242, 1322], 92) := by decide +kernel
theorem d_L_law_132 : decode code 132 = .ok (.aload_n 1, 1) := by decide +kernel
theorem d_L_law_133 : decode code 133 = .ok (.aload_n 0, 1) := by decide +kernel
theorem d_L_law_134 : decode code 134 = .ok (.iload 4, 2) := by decide +kernel
theorem d_L_law_136 : decode code 136 = .ok (.iconst 1, 1) := by decide +kernel
theorem d_L_law_137 : decode code 137 = .ok (.iadd, 1) := by decide +kernel
theorem d_L_law_138 : decode code 138 = .ok (.iaload, 1) := by decide +kernel
theorem d_L_law_139 : decode code 139 = .ok (.aload_n 3, 1) := by decide +kernel
theorem d_L_law_140 : decode code 140 = .ok (.invokestatic 80, 3) := by decide +kernel
theorem d_L_law_143 : decode code 143 = .ok (.istore 5, 2) := by decide +kernel
theorem d_L_law_145 : decode code 145 = .ok (.aload_n 2, 1) := by decide +kernel
theorem d_L_law_146 : decode code 146 = .ok (.aload_n 0, 1) := by decide +kernel
theorem d_L_law_147 : decode code 147 = .ok (.iload 4, 2) := by decide +kernel
theorem d_L_law_149 : decode code 149 = .ok (.iconst 1, 1) := by decide +kernel
theorem d_L_law_150 : decode code 150 = .ok (.iadd, 1) := by decide +kernel
theorem d_L_law_151 : decode code 151 = .ok (.iaload, 1) := by decide +kernel
theorem d_L_law_152 : decode code 152 = .ok (.invokevirtual 85, 3) := by decide +kernel
theorem d_L_law_155 : decode code 155 = .ok (.istore 6, 2) := by decide +kernel
theorem d_L_law_157 : decode code 157 = .ok (.aload_n 2, 1) := by decide +kernel
theorem d_L_law_158 : decode code 158 = .ok (.invokevirtual 86, 3) := by decide +kernel
theorem d_L_law_161 : decode code 161 = .ok (.iload 5, 2) := by decide +kernel
theorem d_L_law_163 : decode code 163 = .ok (.if_icmp .eq 5, 3) := by decide +kernel
theorem d_L_law_166 : decode code 166 = .ok (.iconst 0, 1) := by decide +kernel
theorem d_L_law_167 : decode code 167 = .ok (.ireturn, 1) := by decide +kernel
theorem d_L_law_168 : decode code 168 = .ok (.iload 5, 2) := by decide +kernel
theorem d_L_law_170 : decode code 170 = .ok (.ifCond .ne 15, 3) := by decide +kernel
theorem d_L_law_173 : decode code 173 = .ok (.aload_n 3, 1) := by decide +kernel
theorem d_L_law_174 : decode code 174 = .ok (.iconst 0, 1) := by decide +kernel
theorem d_L_law_175 : decode code 175 = .ok (.laload, 1) := by decide +kernel
theorem d_L_law_176 : decode code 176 = .ok (.iload 6, 2) := by decide +kernel
theorem d_L_law_178 : decode code 178 = .ok (.i2l, 1) := by decide +kernel
theorem d_L_law_179 : decode code 179 = .ok (.lcmp, 1) := by decide +kernel
theorem d_L_law_180 : decode code 180 = .ok (.ifCond .eq 5, 3) := by decide +kernel
theorem d_L_law_183 : decode code 183 = .ok (.iconst 0, 1) := by decide +kernel
theorem d_L_law_184 : decode code 184 = .ok (.ireturn, 1) := by decide +kernel
theorem d_L_law_185 : decode code 185 = .ok (.goto 1233, 3) := by decide +kernel
theorem d_L_law_188 : decode code 188 = .ok (.aload_n 1, 1) := by decide +kernel
theorem d_L_law_189 : decode code 189 = .ok (.invokevirtual 89, 3) := by decide +kernel
theorem d_L_law_192 : decode code 192 = .ok (.aload_n 2, 1) := by decide +kernel
theorem d_L_law_193 : decode code 193 = .ok (.invokevirtual 92, 3) := by decide +kernel
theorem d_L_law_196 : decode code 196 = .ok (.if_icmp .eq 1222, 3) := by decide +kernel
theorem d_L_law_199 : decode code 199 = .ok (.iconst 0, 1) := by decide +kernel
theorem d_L_law_200 : decode code 200 = .ok (.ireturn, 1) := by decide +kernel
theorem d_L_law_201 : decode code 201 = .ok (.aload_n 1, 1) := by decide +kernel
theorem d_L_law_202 : decode code 202 = .ok (.aload_n 0, 1) := by decide +kernel
theorem d_L_law_203 : decode code 203 = .ok (.iload 4, 2) := by decide +kernel
theorem d_L_law_205 : decode code 205 = .ok (.iconst 1, 1) := by decide +kernel
theorem d_L_law_206 : decode code 206 = .ok (.iadd, 1) := by decide +kernel
theorem d_L_law_207 : decode code 207 = .ok (.iaload, 1) := by decide +kernel
theorem d_L_law_208 : decode code 208 = .ok (.aload_n 0, 1) := by decide +kernel
theorem d_L_law_209 : decode code 209 = .ok (.iload 4, 2) := by decide +kernel
theorem d_L_law_211 : decode code 211 = .ok (.iconst 2, 1) := by decide +kernel
theorem d_L_law_212 : decode code 212 = .ok (.iadd, 1) := by decide +kernel
theorem d_L_law_213 : decode code 213 = .ok (.iaload, 1) := by decide +kernel
theorem d_L_law_214 : decode code 214 = .ok (.aload_n 3, 1) := by decide +kernel
theorem d_L_law_215 : decode code 215 = .ok (.invokestatic 93, 3) := by decide +kernel
theorem d_L_law_218 : decode code 218 = .ok (.istore 5, 2) := by decide +kernel
theorem d_L_law_220 : decode code 220 = .ok (.aload_n 2, 1) := by decide +kernel
theorem d_L_law_221 : decode code 221 = .ok (.aload_n 0, 1) := by decide +kernel
theorem d_L_law_222 : decode code 222 = .ok (.iload 4, 2) := by decide +kernel
theorem d_L_law_224 : decode code 224 = .ok (.iconst 1, 1) := by decide +kernel
theorem d_L_law_225 : decode code 225 = .ok (.iadd, 1) := by decide +kernel
theorem d_L_law_226 : decode code 226 = .ok (.iaload, 1) := by decide +kernel
theorem d_L_law_227 : decode code 227 = .ok (.aload_n 0, 1) := by decide +kernel
theorem d_L_law_228 : decode code 228 = .ok (.iload 4, 2) := by decide +kernel
theorem d_L_law_230 : decode code 230 = .ok (.iconst 2, 1) := by decide +kernel
theorem d_L_law_231 : decode code 231 = .ok (.iadd, 1) := by decide +kernel
theorem d_L_law_232 : decode code 232 = .ok (.iaload, 1) := by decide +kernel
theorem d_L_law_233 : decode code 233 = .ok (.invokevirtual 96, 3) := by decide +kernel
theorem d_L_law_236 : decode code 236 = .ok (.istore 6, 2) := by decide +kernel
theorem d_L_law_238 : decode code 238 = .ok (.aload_n 2, 1) := by decide +kernel
theorem d_L_law_239 : decode code 239 = .ok (.invokevirtual 86, 3) := by decide +kernel
theorem d_L_law_242 : decode code 242 = .ok (.iload 5, 2) := by decide +kernel
theorem d_L_law_244 : decode code 244 = .ok (.if_icmp .eq 5, 3) := by decide +kernel
theorem d_L_law_247 : decode code 247 = .ok (.iconst 0, 1) := by decide +kernel
theorem d_L_law_248 : decode code 248 = .ok (.ireturn, 1) := by decide +kernel
theorem d_L_law_249 : decode code 249 = .ok (.iload 5, 2) := by decide +kernel
theorem d_L_law_251 : decode code 251 = .ok (.ifCond .ne 15, 3) := by decide +kernel
theorem d_L_law_254 : decode code 254 = .ok (.aload_n 3, 1) := by decide +kernel
theorem d_L_law_255 : decode code 255 = .ok (.iconst 0, 1) := by decide +kernel
theorem d_L_law_256 : decode code 256 = .ok (.laload, 1) := by decide +kernel
theorem d_L_law_257 : decode code 257 = .ok (.iload 6, 2) := by decide +kernel
theorem d_L_law_259 : decode code 259 = .ok (.i2l, 1) := by decide +kernel
theorem d_L_law_260 : decode code 260 = .ok (.lcmp, 1) := by decide +kernel
theorem d_L_law_261 : decode code 261 = .ok (.ifCond .eq 5, 3) := by decide +kernel
theorem d_L_law_264 : decode code 264 = .ok (.iconst 0, 1) := by decide +kernel
theorem d_L_law_265 : decode code 265 = .ok (.ireturn, 1) := by decide +kernel
theorem d_L_law_266 : decode code 266 = .ok (.goto 1152, 3) := by decide +kernel
theorem d_L_law_269 : decode code 269 = .ok (.aload_n 1, 1) := by decide +kernel
theorem d_L_law_270 : decode code 270 = .ok (.aload_n 3, 1) := by decide +kernel
theorem d_L_law_271 : decode code 271 = .ok (.invokestatic 97, 3) := by decide +kernel
theorem d_L_law_274 : decode code 274 = .ok (.istore 5, 2) := by decide +kernel
theorem d_L_law_276 : decode code 276 = .ok (.aload_n 2, 1) := by decide +kernel
theorem d_L_law_277 : decode code 277 = .ok (.invokevirtual 100, 3) := by decide +kernel
theorem d_L_law_280 : decode code 280 = .ok (.istore 6, 2) := by decide +kernel
theorem d_L_law_282 : decode code 282 = .ok (.aload_n 2, 1) := by decide +kernel
theorem d_L_law_283 : decode code 283 = .ok (.invokevirtual 86, 3) := by decide +kernel
theorem d_L_law_286 : decode code 286 = .ok (.iload 5, 2) := by decide +kernel
theorem d_L_law_288 : decode code 288 = .ok (.if_icmp .eq 5, 3) := by decide +kernel
theorem d_L_law_291 : decode code 291 = .ok (.iconst 0, 1) := by decide +kernel
theorem d_L_law_292 : decode code 292 = .ok (.ireturn, 1) := by decide +kernel
theorem d_L_law_293 : decode code 293 = .ok (.iload 5, 2) := by decide +kernel
theorem d_L_law_295 : decode code 295 = .ok (.ifCond .ne 15, 3) := by decide +kernel
theorem d_L_law_298 : decode code 298 = .ok (.aload_n 3, 1) := by decide +kernel
theorem d_L_law_299 : decode code 299 = .ok (.iconst 0, 1) := by decide +kernel
theorem d_L_law_300 : decode code 300 = .ok (.laload, 1) := by decide +kernel
theorem d_L_law_301 : decode code 301 = .ok (.iload 6, 2) := by decide +kernel
theorem d_L_law_303 : decode code 303 = .ok (.i2l, 1) := by decide +kernel
theorem d_L_law_304 : decode code 304 = .ok (.lcmp, 1) := by decide +kernel
theorem d_L_law_305 : decode code 305 = .ok (.ifCond .eq 5, 3) := by decide +kernel
theorem d_L_law_308 : decode code 308 = .ok (.iconst 0, 1) := by decide +kernel
theorem d_L_law_309 : decode code 309 = .ok (.ireturn, 1) := by decide +kernel
theorem d_L_law_310 : decode code 310 = .ok (.goto 1108, 3) := by decide +kernel
theorem d_L_law_313 : decode code 313 = .ok (.aload_n 1, 1) := by decide +kernel
theorem d_L_law_314 : decode code 314 = .ok (.aload_n 0, 1) := by decide +kernel
theorem d_L_law_315 : decode code 315 = .ok (.iload 4, 2) := by decide +kernel
theorem d_L_law_317 : decode code 317 = .ok (.iconst 1, 1) := by decide +kernel
theorem d_L_law_318 : decode code 318 = .ok (.iadd, 1) := by decide +kernel
theorem d_L_law_319 : decode code 319 = .ok (.iaload, 1) := by decide +kernel
theorem d_L_law_320 : decode code 320 = .ok (.aload_n 0, 1) := by decide +kernel
theorem d_L_law_321 : decode code 321 = .ok (.iload 4, 2) := by decide +kernel
theorem d_L_law_323 : decode code 323 = .ok (.iconst 2, 1) := by decide +kernel
theorem d_L_law_324 : decode code 324 = .ok (.iadd, 1) := by decide +kernel
theorem d_L_law_325 : decode code 325 = .ok (.iaload, 1) := by decide +kernel
theorem d_L_law_326 : decode code 326 = .ok (.aload_n 0, 1) := by decide +kernel
theorem d_L_law_327 : decode code 327 = .ok (.iload 4, 2) := by decide +kernel
theorem d_L_law_329 : decode code 329 = .ok (.iconst 3, 1) := by decide +kernel
theorem d_L_law_330 : decode code 330 = .ok (.iadd, 1) := by decide +kernel
theorem d_L_law_331 : decode code 331 = .ok (.iaload, 1) := by decide +kernel
theorem d_L_law_332 : decode code 332 = .ok (.ifCond .eq 7, 3) := by decide +kernel
theorem d_L_law_335 : decode code 335 = .ok (.iconst 1, 1) := by decide +kernel
theorem d_L_law_336 : decode code 336 = .ok (.goto 4, 3) := by decide +kernel
theorem d_L_law_339 : decode code 339 = .ok (.iconst 0, 1) := by decide +kernel
theorem d_L_law_340 : decode code 340 = .ok (.aload_n 3, 1) := by decide +kernel
theorem d_L_law_341 : decode code 341 = .ok (.invokestatic 101, 3) := by decide +kernel
theorem d_L_law_344 : decode code 344 = .ok (.istore 5, 2) := by decide +kernel
theorem d_L_law_346 : decode code 346 = .ok (.aload_n 2, 1) := by decide +kernel
theorem d_L_law_347 : decode code 347 = .ok (.aload_n 0, 1) := by decide +kernel
theorem d_L_law_348 : decode code 348 = .ok (.iload 4, 2) := by decide +kernel
theorem d_L_law_350 : decode code 350 = .ok (.iconst 1, 1) := by decide +kernel
theorem d_L_law_351 : decode code 351 = .ok (.iadd, 1) := by decide +kernel
theorem d_L_law_352 : decode code 352 = .ok (.iaload, 1) := by decide +kernel
theorem d_L_law_353 : decode code 353 = .ok (.aload_n 0, 1) := by decide +kernel
theorem d_L_law_354 : decode code 354 = .ok (.iload 4, 2) := by decide +kernel
theorem d_L_law_356 : decode code 356 = .ok (.iconst 2, 1) := by decide +kernel
theorem d_L_law_357 : decode code 357 = .ok (.iadd, 1) := by decide +kernel
theorem d_L_law_358 : decode code 358 = .ok (.iaload, 1) := by decide +kernel
theorem d_L_law_359 : decode code 359 = .ok (.aload_n 0, 1) := by decide +kernel
theorem d_L_law_360 : decode code 360 = .ok (.iload 4, 2) := by decide +kernel
theorem d_L_law_362 : decode code 362 = .ok (.iconst 3, 1) := by decide +kernel
theorem d_L_law_363 : decode code 363 = .ok (.iadd, 1) := by decide +kernel
theorem d_L_law_364 : decode code 364 = .ok (.iaload, 1) := by decide +kernel
theorem d_L_law_365 : decode code 365 = .ok (.ifCond .eq 7, 3) := by decide +kernel
theorem d_L_law_368 : decode code 368 = .ok (.iconst 1, 1) := by decide +kernel
theorem d_L_law_369 : decode code 369 = .ok (.goto 4, 3) := by decide +kernel
theorem d_L_law_372 : decode code 372 = .ok (.iconst 0, 1) := by decide +kernel
theorem d_L_law_373 : decode code 373 = .ok (.invokevirtual 104, 3) := by decide +kernel
theorem d_L_law_376 : decode code 376 = .ok (.istore 6, 2) := by decide +kernel
theorem d_L_law_378 : decode code 378 = .ok (.aload_n 2, 1) := by decide +kernel
theorem d_L_law_379 : decode code 379 = .ok (.invokevirtual 86, 3) := by decide +kernel
theorem d_L_law_382 : decode code 382 = .ok (.iload 5, 2) := by decide +kernel
theorem d_L_law_384 : decode code 384 = .ok (.if_icmp .eq 5, 3) := by decide +kernel
theorem d_L_law_387 : decode code 387 = .ok (.iconst 0, 1) := by decide +kernel
theorem d_L_law_388 : decode code 388 = .ok (.ireturn, 1) := by decide +kernel
theorem d_L_law_389 : decode code 389 = .ok (.iload 5, 2) := by decide +kernel
theorem d_L_law_391 : decode code 391 = .ok (.ifCond .ne 22, 3) := by decide +kernel
theorem d_L_law_394 : decode code 394 = .ok (.aload_n 3, 1) := by decide +kernel
theorem d_L_law_395 : decode code 395 = .ok (.iconst 0, 1) := by decide +kernel
theorem d_L_law_396 : decode code 396 = .ok (.laload, 1) := by decide +kernel
theorem d_L_law_397 : decode code 397 = .ok (.iload 6, 2) := by decide +kernel
theorem d_L_law_399 : decode code 399 = .ok (.ifCond .eq 7, 3) := by decide +kernel
theorem d_L_law_402 : decode code 402 = .ok (.lconst 1, 1) := by decide +kernel
theorem d_L_law_403 : decode code 403 = .ok (.goto 4, 3) := by decide +kernel
theorem d_L_law_406 : decode code 406 = .ok (.lconst 0, 1) := by decide +kernel
theorem d_L_law_407 : decode code 407 = .ok (.lcmp, 1) := by decide +kernel
theorem d_L_law_408 : decode code 408 = .ok (.ifCond .eq 5, 3) := by decide +kernel
theorem d_L_law_411 : decode code 411 = .ok (.iconst 0, 1) := by decide +kernel
theorem d_L_law_412 : decode code 412 = .ok (.ireturn, 1) := by decide +kernel
theorem d_L_law_413 : decode code 413 = .ok (.goto 1005, 3) := by decide +kernel
theorem d_L_law_416 : decode code 416 = .ok (.aload_n 1, 1) := by decide +kernel
theorem d_L_law_417 : decode code 417 = .ok (.aload_n 0, 1) := by decide +kernel
theorem d_L_law_418 : decode code 418 = .ok (.iload 4, 2) := by decide +kernel
theorem d_L_law_420 : decode code 420 = .ok (.iconst 1, 1) := by decide +kernel
theorem d_L_law_421 : decode code 421 = .ok (.iadd, 1) := by decide +kernel
theorem d_L_law_422 : decode code 422 = .ok (.iaload, 1) := by decide +kernel
theorem d_L_law_423 : decode code 423 = .ok (.aload_n 0, 1) := by decide +kernel
theorem d_L_law_424 : decode code 424 = .ok (.iload 4, 2) := by decide +kernel
theorem d_L_law_426 : decode code 426 = .ok (.iconst 2, 1) := by decide +kernel
theorem d_L_law_427 : decode code 427 = .ok (.iadd, 1) := by decide +kernel
theorem d_L_law_428 : decode code 428 = .ok (.iaload, 1) := by decide +kernel
theorem d_L_law_429 : decode code 429 = .ok (.aload_n 3, 1) := by decide +kernel
theorem d_L_law_430 : decode code 430 = .ok (.invokestatic 105, 3) := by decide +kernel
theorem d_L_law_433 : decode code 433 = .ok (.istore 5, 2) := by decide +kernel
theorem d_L_law_435 : decode code 435 = .ok (.aload_n 2, 1) := by decide +kernel
theorem d_L_law_436 : decode code 436 = .ok (.aload_n 0, 1) := by decide +kernel
theorem d_L_law_437 : decode code 437 = .ok (.iload 4, 2) := by decide +kernel
theorem d_L_law_439 : decode code 439 = .ok (.iconst 1, 1) := by decide +kernel
theorem d_L_law_440 : decode code 440 = .ok (.iadd, 1) := by decide +kernel
theorem d_L_law_441 : decode code 441 = .ok (.iaload, 1) := by decide +kernel
theorem d_L_law_442 : decode code 442 = .ok (.aload_n 0, 1) := by decide +kernel
theorem d_L_law_443 : decode code 443 = .ok (.iload 4, 2) := by decide +kernel
theorem d_L_law_445 : decode code 445 = .ok (.iconst 2, 1) := by decide +kernel
theorem d_L_law_446 : decode code 446 = .ok (.iadd, 1) := by decide +kernel
theorem d_L_law_447 : decode code 447 = .ok (.iaload, 1) := by decide +kernel
theorem d_L_law_448 : decode code 448 = .ok (.invokevirtual 107, 3) := by decide +kernel
theorem d_L_law_451 : decode code 451 = .ok (.istore 6, 2) := by decide +kernel
theorem d_L_law_453 : decode code 453 = .ok (.aload_n 2, 1) := by decide +kernel
theorem d_L_law_454 : decode code 454 = .ok (.invokevirtual 86, 3) := by decide +kernel
theorem d_L_law_457 : decode code 457 = .ok (.iload 5, 2) := by decide +kernel
theorem d_L_law_459 : decode code 459 = .ok (.if_icmp .eq 5, 3) := by decide +kernel
theorem d_L_law_462 : decode code 462 = .ok (.iconst 0, 1) := by decide +kernel
theorem d_L_law_463 : decode code 463 = .ok (.ireturn, 1) := by decide +kernel
theorem d_L_law_464 : decode code 464 = .ok (.iload 5, 2) := by decide +kernel
theorem d_L_law_466 : decode code 466 = .ok (.ifCond .ne 15, 3) := by decide +kernel
theorem d_L_law_469 : decode code 469 = .ok (.aload_n 3, 1) := by decide +kernel
theorem d_L_law_470 : decode code 470 = .ok (.iconst 0, 1) := by decide +kernel
theorem d_L_law_471 : decode code 471 = .ok (.laload, 1) := by decide +kernel
theorem d_L_law_472 : decode code 472 = .ok (.iload 6, 2) := by decide +kernel
theorem d_L_law_474 : decode code 474 = .ok (.i2l, 1) := by decide +kernel
theorem d_L_law_475 : decode code 475 = .ok (.lcmp, 1) := by decide +kernel
theorem d_L_law_476 : decode code 476 = .ok (.ifCond .eq 5, 3) := by decide +kernel
theorem d_L_law_479 : decode code 479 = .ok (.iconst 0, 1) := by decide +kernel
theorem d_L_law_480 : decode code 480 = .ok (.ireturn, 1) := by decide +kernel
theorem d_L_law_481 : decode code 481 = .ok (.goto 937, 3) := by decide +kernel
theorem d_L_law_484 : decode code 484 = .ok (.aload_n 1, 1) := by decide +kernel
theorem d_L_law_485 : decode code 485 = .ok (.aload_n 0, 1) := by decide +kernel
theorem d_L_law_486 : decode code 486 = .ok (.iload 4, 2) := by decide +kernel
theorem d_L_law_488 : decode code 488 = .ok (.iconst 1, 1) := by decide +kernel
theorem d_L_law_489 : decode code 489 = .ok (.iadd, 1) := by decide +kernel
theorem d_L_law_490 : decode code 490 = .ok (.iaload, 1) := by decide +kernel
theorem d_L_law_491 : decode code 491 = .ok (.aload_n 3, 1) := by decide +kernel
theorem d_L_law_492 : decode code 492 = .ok (.invokestatic 108, 3) := by decide +kernel
theorem d_L_law_495 : decode code 495 = .ok (.istore 5, 2) := by decide +kernel
theorem d_L_law_497 : decode code 497 = .ok (.aload_n 2, 1) := by decide +kernel
theorem d_L_law_498 : decode code 498 = .ok (.aload_n 0, 1) := by decide +kernel
theorem d_L_law_499 : decode code 499 = .ok (.iload 4, 2) := by decide +kernel
theorem d_L_law_501 : decode code 501 = .ok (.iconst 1, 1) := by decide +kernel
theorem d_L_law_502 : decode code 502 = .ok (.iadd, 1) := by decide +kernel
theorem d_L_law_503 : decode code 503 = .ok (.iaload, 1) := by decide +kernel
theorem d_L_law_504 : decode code 504 = .ok (.invokevirtual 110, 3) := by decide +kernel
theorem d_L_law_507 : decode code 507 = .ok (.istore 6, 2) := by decide +kernel
theorem d_L_law_509 : decode code 509 = .ok (.aload_n 2, 1) := by decide +kernel
theorem d_L_law_510 : decode code 510 = .ok (.invokevirtual 86, 3) := by decide +kernel
theorem d_L_law_513 : decode code 513 = .ok (.iload 5, 2) := by decide +kernel
theorem d_L_law_515 : decode code 515 = .ok (.if_icmp .eq 5, 3) := by decide +kernel
theorem d_L_law_518 : decode code 518 = .ok (.iconst 0, 1) := by decide +kernel
theorem d_L_law_519 : decode code 519 = .ok (.ireturn, 1) := by decide +kernel
theorem d_L_law_520 : decode code 520 = .ok (.iload 5, 2) := by decide +kernel
theorem d_L_law_522 : decode code 522 = .ok (.ifCond .ne 15, 3) := by decide +kernel
theorem d_L_law_525 : decode code 525 = .ok (.aload_n 3, 1) := by decide +kernel
theorem d_L_law_526 : decode code 526 = .ok (.iconst 0, 1) := by decide +kernel
theorem d_L_law_527 : decode code 527 = .ok (.laload, 1) := by decide +kernel
theorem d_L_law_528 : decode code 528 = .ok (.iload 6, 2) := by decide +kernel
theorem d_L_law_530 : decode code 530 = .ok (.i2l, 1) := by decide +kernel
theorem d_L_law_531 : decode code 531 = .ok (.lcmp, 1) := by decide +kernel
theorem d_L_law_532 : decode code 532 = .ok (.ifCond .eq 5, 3) := by decide +kernel
theorem d_L_law_535 : decode code 535 = .ok (.iconst 0, 1) := by decide +kernel
theorem d_L_law_536 : decode code 536 = .ok (.ireturn, 1) := by decide +kernel
theorem d_L_law_537 : decode code 537 = .ok (.goto 881, 3) := by decide +kernel
theorem d_L_law_540 : decode code 540 = .ok (.aload_n 1, 1) := by decide +kernel
theorem d_L_law_541 : decode code 541 = .ok (.aload_n 0, 1) := by decide +kernel
theorem d_L_law_542 : decode code 542 = .ok (.iload 4, 2) := by decide +kernel
theorem d_L_law_544 : decode code 544 = .ok (.iconst 1, 1) := by decide +kernel
theorem d_L_law_545 : decode code 545 = .ok (.iadd, 1) := by decide +kernel
theorem d_L_law_546 : decode code 546 = .ok (.iaload, 1) := by decide +kernel
theorem d_L_law_547 : decode code 547 = .ok (.aload_n 0, 1) := by decide +kernel
theorem d_L_law_548 : decode code 548 = .ok (.iload 4, 2) := by decide +kernel
theorem d_L_law_550 : decode code 550 = .ok (.iconst 2, 1) := by decide +kernel
theorem d_L_law_551 : decode code 551 = .ok (.iadd, 1) := by decide +kernel
theorem d_L_law_552 : decode code 552 = .ok (.iaload, 1) := by decide +kernel
theorem d_L_law_553 : decode code 553 = .ok (.aload_n 3, 1) := by decide +kernel
theorem d_L_law_554 : decode code 554 = .ok (.invokestatic 111, 3) := by decide +kernel
theorem d_L_law_557 : decode code 557 = .ok (.istore 5, 2) := by decide +kernel
theorem d_L_law_559 : decode code 559 = .ok (.aload_n 2, 1) := by decide +kernel
theorem d_L_law_560 : decode code 560 = .ok (.aload_n 0, 1) := by decide +kernel
theorem d_L_law_561 : decode code 561 = .ok (.iload 4, 2) := by decide +kernel

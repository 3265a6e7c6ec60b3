theorem dL_law_0 : decode code 0 = .ok (.new 8, 3) := by decide +kernel
theorem dL_law_3 : decode code 3 = .ok (.dup, 1) := by decide +kernel
theorem dL_law_4 : decode code 4 = .ok (.invokespecial 91, 3) := by decide +kernel
theorem dL_law_7 : decode code 7 = .ok (.astore_n 1, 1) := by decide +kernel
theorem dL_law_8 : decode code 8 = .ok (.new 92, 3) := by decide +kernel
theorem dL_law_11 : decode code 11 = .ok (.dup, 1) := by decide +kernel
theorem dL_law_12 : decode code 12 = .ok (.invokespecial 94, 3) := by decide +kernel
theorem dL_law_15 : decode code 15 = .ok (.astore_n 2, 1) := by decide +kernel
theorem dL_law_16 : decode code 16 = .ok (.iconst 1, 1) := by decide +kernel
theorem dL_law_17 : decode code 17 = .ok (.newarray .long, 2) := by decide +kernel
theorem dL_law_19 : decode code 19 = .ok (.astore_n 3, 1) := by decide +kernel
theorem dL_law_20 : decode code 20 = .ok (.iconst 0, 1) := by decide +kernel
theorem dL_law_21 : decode code 21 = .ok (.istore 4, 2) := by decide +kernel
theorem dL_law_23 : decode code 23 = .ok (.iload 4, 2) := by decide +kernel
theorem dL_law_25 : decode code 25 = .ok (.aload_n 0, 1) := by decide +kernel
theorem dL_law_26 : decode code 26 = .ok (.arraylength, 1) := by decide +kernel
theorem dL_law_27 : decode code 27 = .ok (.iconst 5, 1) := by decide +kernel
theorem dL_law_28 : decode code 28 = .ok (.isub, 1) := by decide +kernel
theorem dL_law_29 : decode code 29 = .ok (.if_icmp .gt 1602, 3) := by decide +kernel
theorem dL_law_32 : decode code 32 = .ok (.aload_n 0, 1) := by decide +kernel
theorem dL_law_33 : decode code 33 = .ok (.iload 4, 2) := by decide +kernel
theorem dL_law_35 : decode code 35 = .ok (.iaload, 1) := by decide +kernel
theorem dL_law_36 : decode code 36 = .ok (.bipush 31, 2) := by decide +kernel
theorem dL_law_38 : decode code 38 = .ok (.iand, 1) := by decide +kernel
theorem dL_law_39 : decode code 39 = .ok (.tableswitch 1586 0 22 #[105, 173, 264, 351, 407, 448, 504, 548, 604, 640, 676, 744, 843, 935, 991, 1047, 1115, 1183, 1251, 1331, 1411, 1467, 1530], 105) := by decide +kernel
theorem dL_law_144 : decode code 144 = .ok (.aload_n 1, 1) := by decide +kernel
theorem dL_law_145 : decode code 145 = .ok (.aload_n 0, 1) := by decide +kernel
theorem dL_law_146 : decode code 146 = .ok (.iload 4, 2) := by decide +kernel
theorem dL_law_148 : decode code 148 = .ok (.iconst 1, 1) := by decide +kernel
theorem dL_law_149 : decode code 149 = .ok (.iadd, 1) := by decide +kernel
theorem dL_law_150 : decode code 150 = .ok (.iaload, 1) := by decide +kernel
theorem dL_law_151 : decode code 151 = .ok (.aload_n 0, 1) := by decide +kernel
theorem dL_law_152 : decode code 152 = .ok (.iload 4, 2) := by decide +kernel
theorem dL_law_154 : decode code 154 = .ok (.iconst 2, 1) := by decide +kernel
theorem dL_law_155 : decode code 155 = .ok (.iadd, 1) := by decide +kernel
theorem dL_law_156 : decode code 156 = .ok (.iaload, 1) := by decide +kernel
theorem dL_law_157 : decode code 157 = .ok (.aload_n 3, 1) := by decide +kernel
theorem dL_law_158 : decode code 158 = .ok (.invokestatic 95, 3) := by decide +kernel
theorem dL_law_161 : decode code 161 = .ok (.istore 5, 2) := by decide +kernel
theorem dL_law_163 : decode code 163 = .ok (.aload_n 2, 1) := by decide +kernel
theorem dL_law_164 : decode code 164 = .ok (.aload_n 0, 1) := by decide +kernel
theorem dL_law_165 : decode code 165 = .ok (.iload 4, 2) := by decide +kernel
theorem dL_law_167 : decode code 167 = .ok (.iconst 1, 1) := by decide +kernel
theorem dL_law_168 : decode code 168 = .ok (.iadd, 1) := by decide +kernel
theorem dL_law_169 : decode code 169 = .ok (.iaload, 1) := by decide +kernel
theorem dL_law_170 : decode code 170 = .ok (.aload_n 0, 1) := by decide +kernel
theorem dL_law_171 : decode code 171 = .ok (.iload 4, 2) := by decide +kernel
theorem dL_law_173 : decode code 173 = .ok (.iconst 2, 1) := by decide +kernel
theorem dL_law_174 : decode code 174 = .ok (.iadd, 1) := by decide +kernel
theorem dL_law_175 : decode code 175 = .ok (.iaload, 1) := by decide +kernel
theorem dL_law_176 : decode code 176 = .ok (.invokevirtual 100, 3) := by decide +kernel
theorem dL_law_179 : decode code 179 = .ok (.istore 6, 2) := by decide +kernel
theorem dL_law_181 : decode code 181 = .ok (.aload_n 2, 1) := by decide +kernel
theorem dL_law_182 : decode code 182 = .ok (.invokevirtual 101, 3) := by decide +kernel
theorem dL_law_185 : decode code 185 = .ok (.iload 5, 2) := by decide +kernel
theorem dL_law_187 : decode code 187 = .ok (.if_icmp .eq 5, 3) := by decide +kernel
theorem dL_law_190 : decode code 190 = .ok (.iconst 0, 1) := by decide +kernel
theorem dL_law_191 : decode code 191 = .ok (.ireturn, 1) := by decide +kernel
theorem dL_law_192 : decode code 192 = .ok (.iload 5, 2) := by decide +kernel
theorem dL_law_194 : decode code 194 = .ok (.ifCond .ne 15, 3) := by decide +kernel
theorem dL_law_197 : decode code 197 = .ok (.aload_n 3, 1) := by decide +kernel
theorem dL_law_198 : decode code 198 = .ok (.iconst 0, 1) := by decide +kernel
theorem dL_law_199 : decode code 199 = .ok (.laload, 1) := by decide +kernel
theorem dL_law_200 : decode code 200 = .ok (.iload 6, 2) := by decide +kernel
theorem dL_law_202 : decode code 202 = .ok (.i2l, 1) := by decide +kernel
theorem dL_law_203 : decode code 203 = .ok (.lcmp, 1) := by decide +kernel
theorem dL_law_204 : decode code 204 = .ok (.ifCond .eq 5, 3) := by decide +kernel
theorem dL_law_207 : decode code 207 = .ok (.iconst 0, 1) := by decide +kernel
theorem dL_law_208 : decode code 208 = .ok (.ireturn, 1) := by decide +kernel
theorem dL_law_209 : decode code 209 = .ok (.goto 1416, 3) := by decide +kernel
theorem dL_law_212 : decode code 212 = .ok (.aload_n 1, 1) := by decide +kernel
theorem dL_law_213 : decode code 213 = .ok (.aload_n 0, 1) := by decide +kernel
theorem dL_law_214 : decode code 214 = .ok (.iload 4, 2) := by decide +kernel
theorem dL_law_216 : decode code 216 = .ok (.iconst 1, 1) := by decide +kernel
theorem dL_law_217 : decode code 217 = .ok (.iadd, 1) := by decide +kernel
theorem dL_law_218 : decode code 218 = .ok (.iaload, 1) := by decide +kernel
theorem dL_law_219 : decode code 219 = .ok (.aload_n 0, 1) := by decide +kernel
theorem dL_law_220 : decode code 220 = .ok (.iload 4, 2) := by decide +kernel
theorem dL_law_222 : decode code 222 = .ok (.iconst 2, 1) := by decide +kernel
theorem dL_law_223 : decode code 223 = .ok (.iadd, 1) := by decide +kernel
theorem dL_law_224 : decode code 224 = .ok (.iaload, 1) := by decide +kernel
theorem dL_law_225 : decode code 225 = .ok (.ifCond .eq 7, 3) := by decide +kernel
theorem dL_law_228 : decode code 228 = .ok (.iconst 1, 1) := by decide +kernel
theorem dL_law_229 : decode code 229 = .ok (.goto 4, 3) := by decide +kernel
theorem dL_law_232 : decode code 232 = .ok (.iconst 0, 1) := by decide +kernel
theorem dL_law_233 : decode code 233 = .ok (.aload_n 3, 1) := by decide +kernel
theorem dL_law_234 : decode code 234 = .ok (.invokestatic 104, 3) := by decide +kernel
theorem dL_law_237 : decode code 237 = .ok (.istore 5, 2) := by decide +kernel
theorem dL_law_239 : decode code 239 = .ok (.aload_n 2, 1) := by decide +kernel
theorem dL_law_240 : decode code 240 = .ok (.aload_n 0, 1) := by decide +kernel
theorem dL_law_241 : decode code 241 = .ok (.iload 4, 2) := by decide +kernel
theorem dL_law_243 : decode code 243 = .ok (.iconst 1, 1) := by decide +kernel
theorem dL_law_244 : decode code 244 = .ok (.iadd, 1) := by decide +kernel
theorem dL_law_245 : decode code 245 = .ok (.iaload, 1) := by decide +kernel
theorem dL_law_246 : decode code 246 = .ok (.aload_n 0, 1) := by decide +kernel
theorem dL_law_247 : decode code 247 = .ok (.iload 4, 2) := by decide +kernel
theorem dL_law_249 : decode code 249 = .ok (.iconst 2, 1) := by decide +kernel
theorem dL_law_250 : decode code 250 = .ok (.iadd, 1) := by decide +kernel
theorem dL_law_251 : decode code 251 = .ok (.iaload, 1) := by decide +kernel
theorem dL_law_252 : decode code 252 = .ok (.ifCond .eq 7, 3) := by decide +kernel
theorem dL_law_255 : decode code 255 = .ok (.iconst 1, 1) := by decide +kernel
theorem dL_law_256 : decode code 256 = .ok (.goto 4, 3) := by decide +kernel
theorem dL_law_259 : decode code 259 = .ok (.iconst 0, 1) := by decide +kernel
theorem dL_law_260 : decode code 260 = .ok (.invokevirtual 107, 3) := by decide +kernel
theorem dL_law_263 : decode code 263 = .ok (.istore 6, 2) := by decide +kernel
theorem dL_law_265 : decode code 265 = .ok (.aload_n 2, 1) := by decide +kernel
theorem dL_law_266 : decode code 266 = .ok (.invokevirtual 101, 3) := by decide +kernel
theorem dL_law_269 : decode code 269 = .ok (.iload 5, 2) := by decide +kernel
theorem dL_law_271 : decode code 271 = .ok (.if_icmp .eq 5, 3) := by decide +kernel
theorem dL_law_274 : decode code 274 = .ok (.iconst 0, 1) := by decide +kernel
theorem dL_law_275 : decode code 275 = .ok (.ireturn, 1) := by decide +kernel
theorem dL_law_276 : decode code 276 = .ok (.iload 5, 2) := by decide +kernel
theorem dL_law_278 : decode code 278 = .ok (.ifCond .ne 22, 3) := by decide +kernel
theorem dL_law_281 : decode code 281 = .ok (.aload_n 3, 1) := by decide +kernel
theorem dL_law_282 : decode code 282 = .ok (.iconst 0, 1) := by decide +kernel
theorem dL_law_283 : decode code 283 = .ok (.laload, 1) := by decide +kernel
theorem dL_law_284 : decode code 284 = .ok (.iload 6, 2) := by decide +kernel
theorem dL_law_286 : decode code 286 = .ok (.ifCond .eq 7, 3) := by decide +kernel
theorem dL_law_289 : decode code 289 = .ok (.lconst 1, 1) := by decide +kernel
theorem dL_law_290 : decode code 290 = .ok (.goto 4, 3) := by decide +kernel
theorem dL_law_293 : decode code 293 = .ok (.lconst 0, 1) := by decide +kernel
theorem dL_law_294 : decode code 294 = .ok (.lcmp, 1) := by decide +kernel
theorem dL_law_295 : decode code 295 = .ok (.ifCond .eq 5, 3) := by decide +kernel
theorem dL_law_298 : decode code 298 = .ok (.iconst 0, 1) := by decide +kernel
theorem dL_law_299 : decode code 299 = .ok (.ireturn, 1) := by decide +kernel
theorem dL_law_300 : decode code 300 = .ok (.goto 1325, 3) := by decide +kernel
theorem dL_law_303 : decode code 303 = .ok (.aload_n 1, 1) := by decide +kernel
theorem dL_law_304 : decode code 304 = .ok (.aload_n 0, 1) := by decide +kernel
theorem dL_law_305 : decode code 305 = .ok (.iload 4, 2) := by decide +kernel
theorem dL_law_307 : decode code 307 = .ok (.iconst 1, 1) := by decide +kernel
theorem dL_law_308 : decode code 308 = .ok (.iadd, 1) := by decide +kernel
theorem dL_law_309 : decode code 309 = .ok (.iaload, 1) := by decide +kernel
theorem dL_law_310 : decode code 310 = .ok (.aload_n 0, 1) := by decide +kernel
theorem dL_law_311 : decode code 311 = .ok (.iload 4, 2) := by decide +kernel
theorem dL_law_313 : decode code 313 = .ok (.iconst 2, 1) := by decide +kernel
theorem dL_law_314 : decode code 314 = .ok (.iadd, 1) := by decide +kernel
theorem dL_law_315 : decode code 315 = .ok (.iaload, 1) := by decide +kernel
theorem dL_law_316 : decode code 316 = .ok (.aload_n 0, 1) := by decide +kernel
theorem dL_law_317 : decode code 317 = .ok (.iload 4, 2) := by decide +kernel
theorem dL_law_319 : decode code 319 = .ok (.iconst 3, 1) := by decide +kernel
theorem dL_law_320 : decode code 320 = .ok (.iadd, 1) := by decide +kernel
theorem dL_law_321 : decode code 321 = .ok (.iaload, 1) := by decide +kernel
theorem dL_law_322 : decode code 322 = .ok (.aload_n 3, 1) := by decide +kernel
theorem dL_law_323 : decode code 323 = .ok (.invokestatic 108, 3) := by decide +kernel
theorem dL_law_326 : decode code 326 = .ok (.istore 5, 2) := by decide +kernel
theorem dL_law_328 : decode code 328 = .ok (.aload_n 2, 1) := by decide +kernel
theorem dL_law_329 : decode code 329 = .ok (.aload_n 0, 1) := by decide +kernel
theorem dL_law_330 : decode code 330 = .ok (.iload 4, 2) := by decide +kernel
theorem dL_law_332 : decode code 332 = .ok (.iconst 1, 1) := by decide +kernel
theorem dL_law_333 : decode code 333 = .ok (.iadd, 1) := by decide +kernel
theorem dL_law_334 : decode code 334 = .ok (.iaload, 1) := by decide +kernel
theorem dL_law_335 : decode code 335 = .ok (.aload_n 0, 1) := by decide +kernel
theorem dL_law_336 : decode code 336 = .ok (.iload 4, 2) := by decide +kernel
theorem dL_law_338 : decode code 338 = .ok (.iconst 2, 1) := by decide +kernel
theorem dL_law_339 : decode code 339 = .ok (.iadd, 1) := by decide +kernel
theorem dL_law_340 : decode code 340 = .ok (.iaload, 1) := by decide +kernel
theorem dL_law_341 : decode code 341 = .ok (.aload_n 0, 1) := by decide +kernel
theorem dL_law_342 : decode code 342 = .ok (.iload 4, 2) := by decide +kernel
theorem dL_law_344 : decode code 344 = .ok (.iconst 3, 1) := by decide +kernel
theorem dL_law_345 : decode code 345 = .ok (.iadd, 1) := by decide +kernel
theorem dL_law_346 : decode code 346 = .ok (.iaload, 1) := by decide +kernel
theorem dL_law_347 : decode code 347 = .ok (.invokevirtual 111, 3) := by decide +kernel
theorem dL_law_350 : decode code 350 = .ok (.istore 6, 2) := by decide +kernel
theorem dL_law_352 : decode code 352 = .ok (.aload_n 2, 1) := by decide +kernel
theorem dL_law_353 : decode code 353 = .ok (.invokevirtual 101, 3) := by decide +kernel
theorem dL_law_356 : decode code 356 = .ok (.iload 5, 2) := by decide +kernel
theorem dL_law_358 : decode code 358 = .ok (.if_icmp .eq 5, 3) := by decide +kernel
theorem dL_law_361 : decode code 361 = .ok (.iconst 0, 1) := by decide +kernel
theorem dL_law_362 : decode code 362 = .ok (.ireturn, 1) := by decide +kernel
theorem dL_law_363 : decode code 363 = .ok (.iload 5, 2) := by decide +kernel
theorem dL_law_365 : decode code 365 = .ok (.ifCond .ne 22, 3) := by decide +kernel
theorem dL_law_368 : decode code 368 = .ok (.aload_n 3, 1) := by decide +kernel
theorem dL_law_369 : decode code 369 = .ok (.iconst 0, 1) := by decide +kernel
theorem dL_law_370 : decode code 370 = .ok (.laload, 1) := by decide +kernel
theorem dL_law_371 : decode code 371 = .ok (.iload 6, 2) := by decide +kernel
theorem dL_law_373 : decode code 373 = .ok (.ifCond .eq 7, 3) := by decide +kernel
theorem dL_law_376 : decode code 376 = .ok (.lconst 1, 1) := by decide +kernel
theorem dL_law_377 : decode code 377 = .ok (.goto 4, 3) := by decide +kernel
theorem dL_law_380 : decode code 380 = .ok (.lconst 0, 1) := by decide +kernel
theorem dL_law_381 : decode code 381 = .ok (.lcmp, 1) := by decide +kernel
theorem dL_law_382 : decode code 382 = .ok (.ifCond .eq 5, 3) := by decide +kernel
theorem dL_law_385 : decode code 385 = .ok (.iconst 0, 1) := by decide +kernel
theorem dL_law_386 : decode code 386 = .ok (.ireturn, 1) := by decide +kernel
theorem dL_law_387 : decode code 387 = .ok (.goto 1238, 3) := by decide +kernel
theorem dL_law_390 : decode code 390 = .ok (.aload_n 1, 1) := by decide +kernel
theorem dL_law_391 : decode code 391 = .ok (.aload_n 0, 1) := by decide +kernel
theorem dL_law_392 : decode code 392 = .ok (.iload 4, 2) := by decide +kernel
theorem dL_law_394 : decode code 394 = .ok (.iconst 1, 1) := by decide +kernel
theorem dL_law_395 : decode code 395 = .ok (.iadd, 1) := by decide +kernel
theorem dL_law_396 : decode code 396 = .ok (.iaload, 1) := by decide +kernel
theorem dL_law_397 : decode code 397 = .ok (.aload_n 3, 1) := by decide +kernel
theorem dL_law_398 : decode code 398 = .ok (.invokestatic 112, 3) := by decide +kernel
theorem dL_law_401 : decode code 401 = .ok (.istore 5, 2) := by decide +kernel
theorem dL_law_403 : decode code 403 = .ok (.aload_n 2, 1) := by decide +kernel
theorem dL_law_404 : decode code 404 = .ok (.aload_n 0, 1) := by decide +kernel
theorem dL_law_405 : decode code 405 = .ok (.iload 4, 2) := by decide +kernel
theorem dL_law_407 : decode code 407 = .ok (.iconst 1, 1) := by decide +kernel
theorem dL_law_408 : decode code 408 = .ok (.iadd, 1) := by decide +kernel
theorem dL_law_409 : decode code 409 = .ok (.iaload, 1) := by decide +kernel
theorem dL_law_410 : decode code 410 = .ok (.invokevirtual 115, 3) := by decide +kernel
theorem dL_law_413 : decode code 413 = .ok (.istore 6, 2) := by decide +kernel
theorem dL_law_415 : decode code 415 = .ok (.aload_n 2, 1) := by decide +kernel
theorem dL_law_416 : decode code 416 = .ok (.invokevirtual 101, 3) := by decide +kernel
theorem dL_law_419 : decode code 419 = .ok (.iload 5, 2) := by decide +kernel
theorem dL_law_421 : decode code 421 = .ok (.if_icmp .eq 5, 3) := by decide +kernel
theorem dL_law_424 : decode code 424 = .ok (.iconst 0, 1) := by decide +kernel
theorem dL_law_425 : decode code 425 = .ok (.ireturn, 1) := by decide +kernel
theorem dL_law_426 : decode code 426 = .ok (.iload 5, 2) := by decide +kernel
theorem dL_law_428 : decode code 428 = .ok (.ifCond .ne 15, 3) := by decide +kernel
theorem dL_law_431 : decode code 431 = .ok (.aload_n 3, 1) := by decide +kernel
theorem dL_law_432 : decode code 432 = .ok (.iconst 0, 1) := by decide +kernel
theorem dL_law_433 : decode code 433 = .ok (.laload, 1) := by decide +kernel
theorem dL_law_434 : decode code 434 = .ok (.iload 6, 2) := by decide +kernel
theorem dL_law_436 : decode code 436 = .ok (.i2l, 1) := by decide +kernel
theorem dL_law_437 : decode code 437 = .ok (.lcmp, 1) := by decide +kernel
theorem dL_law_438 : decode code 438 = .ok (.ifCond .eq 5, 3) := by decide +kernel
theorem dL_law_441 : decode code 441 = .ok (.iconst 0, 1) := by decide +kernel
theorem dL_law_442 : decode code 442 = .ok (.ireturn, 1) := by decide +kernel
theorem dL_law_443 : decode code 443 = .ok (.goto 1182, 3) := by decide +kernel
theorem dL_law_446 : decode code 446 = .ok (.aload_n 1, 1) := by decide +kernel
theorem dL_law_447 : decode code 447 = .ok (.aload_n 0, 1) := by decide +kernel
theorem dL_law_448 : decode code 448 = .ok (.iload 4, 2) := by decide +kernel
theorem dL_law_450 : decode code 450 = .ok (.iconst 1, 1) := by decide +kernel
theorem dL_law_451 : decode code 451 = .ok (.iadd, 1) := by decide +kernel
theorem dL_law_452 : decode code 452 = .ok (.iaload, 1) := by decide +kernel
theorem dL_law_453 : decode code 453 = .ok (.ifCond .eq 7, 3) := by decide +kernel
theorem dL_law_456 : decode code 456 = .ok (.iconst 1, 1) := by decide +kernel
theorem dL_law_457 : decode code 457 = .ok (.goto 4, 3) := by decide +kernel
theorem dL_law_460 : decode code 460 = .ok (.iconst 0, 1) := by decide +kernel
theorem dL_law_461 : decode code 461 = .ok (.invokevirtual 116, 3) := by decide +kernel
theorem dL_law_464 : decode code 464 = .ok (.aload_n 2, 1) := by decide +kernel
theorem dL_law_465 : decode code 465 = .ok (.aload_n 0, 1) := by decide +kernel
theorem dL_law_466 : decode code 466 = .ok (.iload 4, 2) := by decide +kernel
theorem dL_law_468 : decode code 468 = .ok (.iconst 1, 1) := by decide +kernel
theorem dL_law_469 : decode code 469 = .ok (.iadd, 1) := by decide +kernel
theorem dL_law_470 : decode code 470 = .ok (.iaload, 1) := by decide +kernel
theorem dL_law_471 : decode code 471 = .ok (.ifCond .eq 7, 3) := by decide +kernel
theorem dL_law_474 : decode code 474 = .ok (.iconst 1, 1) := by decide +kernel
theorem dL_law_475 : decode code 475 = .ok (.goto 4, 3) := by decide +kernel
theorem dL_law_478 : decode code 478 = .ok (.iconst 0, 1) := by decide +kernel
theorem dL_law_479 : decode code 479 = .ok (.invokevirtual 120, 3) := by decide +kernel
theorem dL_law_482 : decode code 482 = .ok (.if_icmp .eq 1143, 3) := by decide +kernel
theorem dL_law_485 : decode code 485 = .ok (.iconst 0, 1) := by decide +kernel
theorem dL_law_486 : decode code 486 = .ok (.ireturn, 1) := by decide +kernel
theorem dL_law_487 : decode code 487 = .ok (.aload_n 1, 1) := by decide +kernel
theorem dL_law_488 : decode code 488 = .ok (.aload_n 0, 1) := by decide +kernel
theorem dL_law_489 : decode code 489 = .ok (.iload 4, 2) := by decide +kernel
theorem dL_law_491 : decode code 491 = .ok (.iconst 1, 1) := by decide +kernel
theorem dL_law_492 : decode code 492 = .ok (.iadd, 1) := by decide +kernel
theorem dL_law_493 : decode code 493 = .ok (.iaload, 1) := by decide +kernel
theorem dL_law_494 : decode code 494 = .ok (.aload_n 3, 1) := by decide +kernel
theorem dL_law_495 : decode code 495 = .ok (.invokestatic 121, 3) := by decide +kernel
theorem dL_law_498 : decode code 498 = .ok (.istore 5, 2) := by decide +kernel
theorem dL_law_500 : decode code 500 = .ok (.aload_n 2, 1) := by decide +kernel
theorem dL_law_501 : decode code 501 = .ok (.aload_n 0, 1) := by decide +kernel
theorem dL_law_502 : decode code 502 = .ok (.iload 4, 2) := by decide +kernel
theorem dL_law_504 : decode code 504 = .ok (.iconst 1, 1) := by decide +kernel
theorem dL_law_505 : decode code 505 = .ok (.iadd, 1) := by decide +kernel
theorem dL_law_506 : decode code 506 = .ok (.iaload, 1) := by decide +kernel
theorem dL_law_507 : decode code 507 = .ok (.invokevirtual 123, 3) := by decide +kernel
theorem dL_law_510 : decode code 510 = .ok (.istore 6, 2) := by decide +kernel
theorem dL_law_512 : decode code 512 = .ok (.aload_n 2, 1) := by decide +kernel
theorem dL_law_513 : decode code 513 = .ok (.invokevirtual 101, 3) := by decide +kernel
theorem dL_law_516 : decode code 516 = .ok (.iload 5, 2) := by decide +kernel
theorem dL_law_518 : decode code 518 = .ok (.if_icmp .eq 5, 3) := by decide +kernel
theorem dL_law_521 : decode code 521 = .ok (.iconst 0, 1) := by decide +kernel
theorem dL_law_522 : decode code 522 = .ok (.ireturn, 1) := by decide +kernel
theorem dL_law_523 : decode code 523 = .ok (.iload 5, 2) := by decide +kernel
theorem dL_law_525 : decode code 525 = .ok (.ifCond .ne 15, 3) := by decide +kernel
theorem dL_law_528 : decode code 528 = .ok (.aload_n 3, 1) := by decide +kernel
theorem dL_law_529 : decode code 529 = .ok (.iconst 0, 1) := by decide +kernel
theorem dL_law_530 : decode code 530 = .ok (.laload, 1) := by decide +kernel
theorem dL_law_531 : decode code 531 = .ok (.iload 6, 2) := by decide +kernel
theorem dL_law_533 : decode code 533 = .ok (.i2l, 1) := by decide +kernel
theorem dL_law_534 : decode code 534 = .ok (.lcmp, 1) := by decide +kernel
theorem dL_law_535 : decode code 535 = .ok (.ifCond .eq 5, 3) := by decide +kernel
theorem dL_law_538 : decode code 538 = .ok (.iconst 0, 1) := by decide +kernel
theorem dL_law_539 : decode code 539 = .ok (.ireturn, 1) := by decide +kernel
theorem dL_law_540 : decode code 540 = .ok (.goto 1085, 3) := by decide +kernel
theorem dL_law_543 : decode code 543 = .ok (.aload_n 1, 1) := by decide +kernel
theorem dL_law_544 : decode code 544 = .ok (.aload_n 3, 1) := by decide +kernel
theorem dL_law_545 : decode code 545 = .ok (.invokestatic 124, 3) := by decide +kernel
theorem dL_law_548 : decode code 548 = .ok (.istore 5, 2) := by decide +kernel
theorem dL_law_550 : decode code 550 = .ok (.aload_n 2, 1) := by decide +kernel
theorem dL_law_551 : decode code 551 = .ok (.invokevirtual 127, 3) := by decide +kernel
theorem dL_law_554 : decode code 554 = .ok (.istore 6, 2) := by decide +kernel
theorem dL_law_556 : decode code 556 = .ok (.aload_n 2, 1) := by decide +kernel
theorem dL_law_557 : decode code 557 = .ok (.invokevirtual 101, 3) := by decide +kernel
theorem dL_law_560 : decode code 560 = .ok (.iload 5, 2) := by decide +kernel
theorem dL_law_562 : decode code 562 = .ok (.if_icmp .eq 5, 3) := by decide +kernel
theorem dL_law_565 : decode code 565 = .ok (.iconst 0, 1) := by decide +kernel
theorem dL_law_566 : decode code 566 = .ok (.ireturn, 1) := by decide +kernel
theorem dL_law_567 : decode code 567 = .ok (.iload 5, 2) := by decide +kernel
theorem dL_law_569 : decode code 569 = .ok (.ifCond .ne 15, 3) := by decide +kernel
theorem dL_law_572 : decode code 572 = .ok (.aload_n 3, 1) := by decide +kernel
theorem dL_law_573 : decode code 573 = .ok (.iconst 0, 1) := by decide +kernel
theorem dL_law_574 : decode code 574 = .ok (.laload, 1) := by decide +kernel
theorem dL_law_575 : decode code 575 = .ok (.iload 6, 2) := by decide +kernel
theorem dL_law_577 : decode code 577 = .ok (.i2l, 1) := by decide +kernel
theorem dL_law_578 : decode code 578 = .ok (.lcmp, 1) := by decide +kernel
theorem dL_law_579 : decode code 579 = .ok (.ifCond .eq 5, 3) := by decide +kernel
theorem dL_law_582 : decode code 582 = .ok (.iconst 0, 1) := by decide +kernel
theorem dL_law_583 : decode code 583 = .ok (.ireturn, 1) := by decide +kernel
theorem dL_law_584 : decode code 584 = .ok (.goto 1041, 3) := by decide +kernel
theorem dL_law_587 : decode code 587 = .ok (.aload_n 1, 1) := by decide +kernel
theorem dL_law_588 : decode code 588 = .ok (.aload_n 0, 1) := by decide +kernel
theorem dL_law_589 : decode code 589 = .ok (.iload 4, 2) := by decide +kernel
theorem dL_law_591 : decode code 591 = .ok (.iconst 1, 1) := by decide +kernel
theorem dL_law_592 : decode code 592 = .ok (.iadd, 1) := by decide +kernel
theorem dL_law_593 : decode code 593 = .ok (.iaload, 1) := by decide +kernel
theorem dL_law_594 : decode code 594 = .ok (.aload_n 3, 1) := by decide +kernel
theorem dL_law_595 : decode code 595 = .ok (.invokestatic 128, 3) := by decide +kernel
theorem dL_law_598 : decode code 598 = .ok (.istore 5, 2) := by decide +kernel
theorem dL_law_600 : decode code 600 = .ok (.aload_n 2, 1) := by decide +kernel
theorem dL_law_601 : decode code 601 = .ok (.aload_n 0, 1) := by decide +kernel
theorem dL_law_602 : decode code 602 = .ok (.iload 4, 2) := by decide +kernel
theorem dL_law_604 : decode code 604 = .ok (.iconst 1, 1) := by decide +kernel
theorem dL_law_605 : decode code 605 = .ok (.iadd, 1) := by decide +kernel
theorem dL_law_606 : decode code 606 = .ok (.iaload, 1) := by decide +kernel
theorem dL_law_607 : decode code 607 = .ok (.invokevirtual 130, 3) := by decide +kernel
theorem dL_law_610 : decode code 610 = .ok (.istore 6, 2) := by decide +kernel
theorem dL_law_612 : decode code 612 = .ok (.aload_n 2, 1) := by decide +kernel
theorem dL_law_613 : decode code 613 = .ok (.invokevirtual 101, 3) := by decide +kernel
theorem dL_law_616 : decode code 616 = .ok (.iload 5, 2) := by decide +kernel
theorem dL_law_618 : decode code 618 = .ok (.if_icmp .eq 5, 3) := by decide +kernel
theorem dL_law_621 : decode code 621 = .ok (.iconst 0, 1) := by decide +kernel
theorem dL_law_622 : decode code 622 = .ok (.ireturn, 1) := by decide +kernel
theorem dL_law_623 : decode code 623 = .ok (.iload 5, 2) := by decide +kernel
theorem dL_law_625 : decode code 625 = .ok (.ifCond .ne 15, 3) := by decide +kernel
theorem dL_law_628 : decode code 628 = .ok (.aload_n 3, 1) := by decide +kernel
theorem dL_law_629 : decode code 629 = .ok (.iconst 0, 1) := by decide +kernel
theorem dL_law_630 : decode code 630 = .ok (.laload, 1) := by decide +kernel
theorem dL_law_631 : decode code 631 = .ok (.iload 6, 2) := by decide +kernel
theorem dL_law_633 : decode code 633 = .ok (.i2l, 1) := by decide +kernel
theorem dL_law_634 : decode code 634 = .ok (.lcmp, 1) := by decide +kernel
theorem dL_law_635 : decode code 635 = .ok (.ifCond .eq 5, 3) := by decide +kernel
theorem dL_law_638 : decode code 638 = .ok (.iconst 0, 1) := by decide +kernel
theorem dL_law_639 : decode code 639 = .ok (.ireturn, 1) := by decide +kernel
theorem dL_law_640 : decode code 640 = .ok (.goto 985, 3) := by decide +kernel
theorem dL_law_643 : decode code 643 = .ok (.aload_n 1, 1) := by decide +kernel
theorem dL_law_644 : decode code 644 = .ok (.aload_n 0, 1) := by decide +kernel
theorem dL_law_645 : decode code 645 = .ok (.iload 4, 2) := by decide +kernel
theorem dL_law_647 : decode code 647 = .ok (.iconst 1, 1) := by decide +kernel
theorem dL_law_648 : decode code 648 = .ok (.iadd, 1) := by decide +kernel
theorem dL_law_649 : decode code 649 = .ok (.iaload, 1) := by decide +kernel
theorem dL_law_650 : decode code 650 = .ok (.invokestatic 131, 3) := by decide +kernel
theorem dL_law_653 : decode code 653 = .ok (.istore 5, 2) := by decide +kernel
theorem dL_law_655 : decode code 655 = .ok (.aload_n 2, 1) := by decide +kernel
theorem dL_law_656 : decode code 656 = .ok (.aload_n 0, 1) := by decide +kernel
theorem dL_law_657 : decode code 657 = .ok (.iload 4, 2) := by decide +kernel
theorem dL_law_659 : decode code 659 = .ok (.iconst 1, 1) := by decide +kernel
theorem dL_law_660 : decode code 660 = .ok (.iadd, 1) := by decide +kernel
theorem dL_law_661 : decode code 661 = .ok (.iaload, 1) := by decide +kernel
theorem dL_law_662 : decode code 662 = .ok (.invokevirtual 134, 3) := by decide +kernel
theorem dL_law_665 : decode code 665 = .ok (.aload_n 2, 1) := by decide +kernel
theorem dL_law_666 : decode code 666 = .ok (.invokevirtual 101, 3) := by decide +kernel
theorem dL_law_669 : decode code 669 = .ok (.iload 5, 2) := by decide +kernel
theorem dL_law_671 : decode code 671 = .ok (.if_icmp .eq 5, 3) := by decide +kernel
theorem dL_law_674 : decode code 674 = .ok (.iconst 0, 1) := by decide +kernel
theorem dL_law_675 : decode code 675 = .ok (.ireturn, 1) := by decide +kernel
theorem dL_law_676 : decode code 676 = .ok (.goto 949, 3) := by decide +kernel
theorem dL_law_679 : decode code 679 = .ok (.aload_n 1, 1) := by decide +kernel
theorem dL_law_680 : decode code 680 = .ok (.aload_n 0, 1) := by decide +kernel
theorem dL_law_681 : decode code 681 = .ok (.iload 4, 2) := by decide +kernel
theorem dL_law_683 : decode code 683 = .ok (.iconst 1, 1) := by decide +kernel
theorem dL_law_684 : decode code 684 = .ok (.iadd, 1) := by decide +kernel
theorem dL_law_685 : decode code 685 = .ok (.iaload, 1) := by decide +kernel
theorem dL_law_686 : decode code 686 = .ok (.invokestatic 135, 3) := by decide +kernel
theorem dL_law_689 : decode code 689 = .ok (.istore 5, 2) := by decide +kernel
theorem dL_law_691 : decode code 691 = .ok (.aload_n 2, 1) := by decide +kernel
theorem dL_law_692 : decode code 692 = .ok (.aload_n 0, 1) := by decide +kernel
theorem dL_law_693 : decode code 693 = .ok (.iload 4, 2) := by decide +kernel
theorem dL_law_695 : decode code 695 = .ok (.iconst 1, 1) := by decide +kernel
theorem dL_law_696 : decode code 696 = .ok (.iadd, 1) := by decide +kernel
theorem dL_law_697 : decode code 697 = .ok (.iaload, 1) := by decide +kernel
theorem dL_law_698 : decode code 698 = .ok (.invokevirtual 137, 3) := by decide +kernel
theorem dL_law_701 : decode code 701 = .ok (.aload_n 2, 1) := by decide +kernel
theorem dL_law_702 : decode code 702 = .ok (.invokevirtual 101, 3) := by decide +kernel
theorem dL_law_705 : decode code 705 = .ok (.iload 5, 2) := by decide +kernel
theorem dL_law_707 : decode code 707 = .ok (.if_icmp .eq 5, 3) := by decide +kernel
theorem dL_law_710 : decode code 710 = .ok (.iconst 0, 1) := by decide +kernel
theorem dL_law_711 : decode code 711 = .ok (.ireturn, 1) := by decide +kernel
theorem dL_law_712 : decode code 712 = .ok (.goto 913, 3) := by decide +kernel
theorem dL_law_715 : decode code 715 = .ok (.aload_n 1, 1) := by decide +kernel
theorem dL_law_716 : decode code 716 = .ok (.aload_n 0, 1) := by decide +kernel
theorem dL_law_717 : decode code 717 = .ok (.iload 4, 2) := by decide +kernel
theorem dL_law_719 : decode code 719 = .ok (.iconst 1, 1) := by decide +kernel
theorem dL_law_720 : decode code 720 = .ok (.iadd, 1) := by decide +kernel
theorem dL_law_721 : decode code 721 = .ok (.iaload, 1) := by decide +kernel
theorem dL_law_722 : decode code 722 = .ok (.aload_n 0, 1) := by decide +kernel
theorem dL_law_723 : decode code 723 = .ok (.iload 4, 2) := by decide +kernel
theorem dL_law_725 : decode code 725 = .ok (.iconst 2, 1) := by decide +kernel
theorem dL_law_726 : decode code 726 = .ok (.iadd, 1) := by decide +kernel
theorem dL_law_727 : decode code 727 = .ok (.iaload, 1) := by decide +kernel
theorem dL_law_728 : decode code 728 = .ok (.aload_n 3, 1) := by decide +kernel
theorem dL_law_729 : decode code 729 = .ok (.invokestatic 138, 3) := by decide +kernel
theorem dL_law_732 : decode code 732 = .ok (.istore 5, 2) := by decide +kernel
theorem dL_law_734 : decode code 734 = .ok (.aload_n 2, 1) := by decide +kernel
theorem dL_law_735 : decode code 735 = .ok (.aload_n 0, 1) := by decide +kernel
theorem dL_law_736 : decode code 736 = .ok (.iload 4, 2) := by decide +kernel
theorem dL_law_738 : decode code 738 = .ok (.iconst 1, 1) := by decide +kernel
theorem dL_law_739 : decode code 739 = .ok (.iadd, 1) := by decide +kernel
theorem dL_law_740 : decode code 740 = .ok (.iaload, 1) := by decide +kernel
theorem dL_law_741 : decode code 741 = .ok (.aload_n 0, 1) := by decide +kernel
theorem dL_law_742 : decode code 742 = .ok (.iload 4, 2) := by decide +kernel
theorem dL_law_744 : decode code 744 = .ok (.iconst 2, 1) := by decide +kernel
theorem dL_law_745 : decode code 745 = .ok (.iadd, 1) := by decide +kernel
theorem dL_law_746 : decode code 746 = .ok (.iaload, 1) := by decide +kernel
theorem dL_law_747 : decode code 747 = .ok (.invokevirtual 140, 3) := by decide +kernel
theorem dL_law_750 : decode code 750 = .ok (.istore 6, 2) := by decide +kernel
theorem dL_law_752 : decode code 752 = .ok (.aload_n 2, 1) := by decide +kernel
theorem dL_law_753 : decode code 753 = .ok (.invokevirtual 101, 3) := by decide +kernel
theorem dL_law_756 : decode code 756 = .ok (.iload 5, 2) := by decide +kernel
theorem dL_law_758 : decode code 758 = .ok (.if_icmp .eq 5, 3) := by decide +kernel
theorem dL_law_761 : decode code 761 = .ok (.iconst 0, 1) := by decide +kernel
theorem dL_law_762 : decode code 762 = .ok (.ireturn, 1) := by decide +kernel
theorem dL_law_763 : decode code 763 = .ok (.iload 5, 2) := by decide +kernel
theorem dL_law_765 : decode code 765 = .ok (.ifCond .ne 15, 3) := by decide +kernel
theorem dL_law_768 : decode code 768 = .ok (.aload_n 3, 1) := by decide +kernel
theorem dL_law_769 : decode code 769 = .ok (.iconst 0, 1) := by decide +kernel
theorem dL_law_770 : decode code 770 = .ok (.laload, 1) := by decide +kernel
theorem dL_law_771 : decode code 771 = .ok (.iload 6, 2) := by decide +kernel
theorem dL_law_773 : decode code 773 = .ok (.i2l, 1) := by decide +kernel
theorem dL_law_774 : decode code 774 = .ok (.lcmp, 1) := by decide +kernel
theorem dL_law_775 : decode code 775 = .ok (.ifCond .eq 5, 3) := by decide +kernel
theorem dL_law_778 : decode code 778 = .ok (.iconst 0, 1) := by decide +kernel
theorem dL_law_779 : decode code 779 = .ok (.ireturn, 1) := by decide +kernel
theorem dL_law_780 : decode code 780 = .ok (.goto 845, 3) := by decide +kernel
theorem dL_law_783 : decode code 783 = .ok (.aload_n 1, 1) := by decide +kernel
theorem dL_law_784 : decode code 784 = .ok (.aload_n 0, 1) := by decide +kernel
theorem dL_law_785 : decode code 785 = .ok (.iload 4, 2) := by decide +kernel
theorem dL_law_787 : decode code 787 = .ok (.iconst 1, 1) := by decide +kernel
theorem dL_law_788 : decode code 788 = .ok (.iadd, 1) := by decide +kernel
theorem dL_law_789 : decode code 789 = .ok (.iaload, 1) := by decide +kernel
theorem dL_law_790 : decode code 790 = .ok (.aload_n 0, 1) := by decide +kernel
theorem dL_law_791 : decode code 791 = .ok (.iload 4, 2) := by decide +kernel
theorem dL_law_793 : decode code 793 = .ok (.iconst 2, 1) := by decide +kernel
theorem dL_law_794 : decode code 794 = .ok (.iadd, 1) := by decide +kernel
theorem dL_law_795 : decode code 795 = .ok (.iaload, 1) := by decide +kernel
theorem dL_law_796 : decode code 796 = .ok (.aload_n 0, 1) := by decide +kernel
theorem dL_law_797 : decode code 797 = .ok (.iload 4, 2) := by decide +kernel
theorem dL_law_799 : decode code 799 = .ok (.iconst 3, 1) := by decide +kernel
theorem dL_law_800 : decode code 800 = .ok (.iadd, 1) := by decide +kernel
theorem dL_law_801 : decode code 801 = .ok (.iaload, 1) := by decide +kernel
theorem dL_law_802 : decode code 802 = .ok (.aload_n 0, 1) := by decide +kernel
theorem dL_law_803 : decode code 803 = .ok (.iload 4, 2) := by decide +kernel
theorem dL_law_805 : decode code 805 = .ok (.iconst 4, 1) := by decide +kernel
theorem dL_law_806 : decode code 806 = .ok (.iadd, 1) := by decide +kernel
theorem dL_law_807 : decode code 807 = .ok (.iaload, 1) := by decide +kernel
theorem dL_law_808 : decode code 808 = .ok (.aload_n 3, 1) := by decide +kernel
theorem dL_law_809 : decode code 809 = .ok (.invokestatic 141, 3) := by decide +kernel
theorem dL_law_812 : decode code 812 = .ok (.istore 5, 2) := by decide +kernel
theorem dL_law_814 : decode code 814 = .ok (.aload_n 2, 1) := by decide +kernel
theorem dL_law_815 : decode code 815 = .ok (.aload_n 0, 1) := by decide +kernel
theorem dL_law_816 : decode code 816 = .ok (.iload 4, 2) := by decide +kernel
theorem dL_law_818 : decode code 818 = .ok (.iconst 1, 1) := by decide +kernel
theorem dL_law_819 : decode code 819 = .ok (.iadd, 1) := by decide +kernel
theorem dL_law_820 : decode code 820 = .ok (.iaload, 1) := by decide +kernel
theorem dL_law_821 : decode code 821 = .ok (.aload_n 0, 1) := by decide +kernel
theorem dL_law_822 : decode code 822 = .ok (.iload 4, 2) := by decide +kernel
theorem dL_law_824 : decode code 824 = .ok (.iconst 2, 1) := by decide +kernel
theorem dL_law_825 : decode code 825 = .ok (.iadd, 1) := by decide +kernel
theorem dL_law_826 : decode code 826 = .ok (.iaload, 1) := by decide +kernel
theorem dL_law_827 : decode code 827 = .ok (.aload_n 0, 1) := by decide +kernel
theorem dL_law_828 : decode code 828 = .ok (.iload 4, 2) := by decide +kernel
theorem dL_law_830 : decode code 830 = .ok (.iconst 3, 1) := by decide +kernel
theorem dL_law_831 : decode code 831 = .ok (.iadd, 1) := by decide +kernel
theorem dL_law_832 : decode code 832 = .ok (.iaload, 1) := by decide +kernel
theorem dL_law_833 : decode code 833 = .ok (.aload_n 0, 1) := by decide +kernel
theorem dL_law_834 : decode code 834 = .ok (.iload 4, 2) := by decide +kernel
theorem dL_law_836 : decode code 836 = .ok (.iconst 4, 1) := by decide +kernel
theorem dL_law_837 : decode code 837 = .ok (.iadd, 1) := by decide +kernel
theorem dL_law_838 : decode code 838 = .ok (.iaload, 1) := by decide +kernel
theorem dL_law_839 : decode code 839 = .ok (.invokevirtual 144, 3) := by decide +kernel
theorem dL_law_842 : decode code 842 = .ok (.istore 6, 2) := by decide +kernel
theorem dL_law_844 : decode code 844 = .ok (.aload_n 2, 1) := by decide +kernel
theorem dL_law_845 : decode code 845 = .ok (.invokevirtual 101, 3) := by decide +kernel
theorem dL_law_848 : decode code 848 = .ok (.iload 5, 2) := by decide +kernel
theorem dL_law_850 : decode code 850 = .ok (.if_icmp .eq 5, 3) := by decide +kernel
theorem dL_law_853 : decode code 853 = .ok (.iconst 0, 1) := by decide +kernel
theorem dL_law_854 : decode code 854 = .ok (.ireturn, 1) := by decide +kernel
theorem dL_law_855 : decode code 855 = .ok (.iload 5, 2) := by decide +kernel
theorem dL_law_857 : decode code 857 = .ok (.ifCond .ne 22, 3) := by decide +kernel
theorem dL_law_860 : decode code 860 = .ok (.aload_n 3, 1) := by decide +kernel
theorem dL_law_861 : decode code 861 = .ok (.iconst 0, 1) := by decide +kernel
theorem dL_law_862 : decode code 862 = .ok (.laload, 1) := by decide +kernel
theorem dL_law_863 : decode code 863 = .ok (.iload 6, 2) := by decide +kernel
theorem dL_law_865 : decode code 865 = .ok (.ifCond .eq 7, 3) := by decide +kernel
theorem dL_law_868 : decode code 868 = .ok (.lconst 1, 1) := by decide +kernel
theorem dL_law_869 : decode code 869 = .ok (.goto 4, 3) := by decide +kernel
theorem dL_law_872 : decode code 872 = .ok (.lconst 0, 1) := by decide +kernel
theorem dL_law_873 : decode code 873 = .ok (.lcmp, 1) := by decide +kernel
theorem dL_law_874 : decode code 874 = .ok (.ifCond .eq 5, 3) := by decide +kernel
theorem dL_law_877 : decode code 877 = .ok (.iconst 0, 1) := by decide +kernel
theorem dL_law_878 : decode code 878 = .ok (.ireturn, 1) := by decide +kernel
theorem dL_law_879 : decode code 879 = .ok (.goto 746, 3) := by decide +kernel
theorem dL_law_882 : decode code 882 = .ok (.aload_n 1, 1) := by decide +kernel
theorem dL_law_883 : decode code 883 = .ok (.aload_n 0, 1) := by decide +kernel
theorem dL_law_884 : decode code 884 = .ok (.iload 4, 2) := by decide +kernel
theorem dL_law_886 : decode code 886 = .ok (.iconst 1, 1) := by decide +kernel
theorem dL_law_887 : decode code 887 = .ok (.iadd, 1) := by decide +kernel
theorem dL_law_888 : decode code 888 = .ok (.iaload, 1) := by decide +kernel
theorem dL_law_889 : decode code 889 = .ok (.aload_n 0, 1) := by decide +kernel
theorem dL_law_890 : decode code 890 = .ok (.iload 4, 2) := by decide +kernel
theorem dL_law_892 : decode code 892 = .ok (.iconst 2, 1) := by decide +kernel
theorem dL_law_893 : decode code 893 = .ok (.iadd, 1) := by decide +kernel
theorem dL_law_894 : decode code 894 = .ok (.iaload, 1) := by decide +kernel
theorem dL_law_895 : decode code 895 = .ok (.aload_n 0, 1) := by decide +kernel
theorem dL_law_896 : decode code 896 = .ok (.iload 4, 2) := by decide +kernel
theorem dL_law_898 : decode code 898 = .ok (.iconst 3, 1) := by decide +kernel
theorem dL_law_899 : decode code 899 = .ok (.iadd, 1) := by decide +kernel
theorem dL_law_900 : decode code 900 = .ok (.iaload, 1) := by decide +kernel
theorem dL_law_901 : decode code 901 = .ok (.aload_n 0, 1) := by decide +kernel
theorem dL_law_902 : decode code 902 = .ok (.iload 4, 2) := by decide +kernel
theorem dL_law_904 : decode code 904 = .ok (.iconst 4, 1) := by decide +kernel
theorem dL_law_905 : decode code 905 = .ok (.iadd, 1) := by decide +kernel
theorem dL_law_906 : decode code 906 = .ok (.iaload, 1) := by decide +kernel
theorem dL_law_907 : decode code 907 = .ok (.aload_n 3, 1) := by decide +kernel
theorem dL_law_908 : decode code 908 = .ok (.invokestatic 145, 3) := by decide +kernel
theorem dL_law_911 : decode code 911 = .ok (.istore 5, 2) := by decide +kernel
theorem dL_law_913 : decode code 913 = .ok (.aload_n 2, 1) := by decide +kernel
theorem dL_law_914 : decode code 914 = .ok (.aload_n 0, 1) := by decide +kernel
theorem dL_law_915 : decode code 915 = .ok (.iload 4, 2) := by decide +kernel
theorem dL_law_917 : decode code 917 = .ok (.iconst 1, 1) := by decide +kernel
theorem dL_law_918 : decode code 918 = .ok (.iadd, 1) := by decide +kernel
theorem dL_law_919 : decode code 919 = .ok (.iaload, 1) := by decide +kernel
theorem dL_law_920 : decode code 920 = .ok (.aload_n 0, 1) := by decide +kernel
theorem dL_law_921 : decode code 921 = .ok (.iload 4, 2) := by decide +kernel
theorem dL_law_923 : decode code 923 = .ok (.iconst 2, 1) := by decide +kernel
theorem dL_law_924 : decode code 924 = .ok (.iadd, 1) := by decide +kernel
theorem dL_law_925 : decode code 925 = .ok (.iaload, 1) := by decide +kernel
theorem dL_law_926 : decode code 926 = .ok (.aload_n 0, 1) := by decide +kernel
theorem dL_law_927 : decode code 927 = .ok (.iload 4, 2) := by decide +kernel
theorem dL_law_929 : decode code 929 = .ok (.iconst 3, 1) := by decide +kernel
theorem dL_law_930 : decode code 930 = .ok (.iadd, 1) := by decide +kernel
theorem dL_law_931 : decode code 931 = .ok (.iaload, 1) := by decide +kernel
theorem dL_law_932 : decode code 932 = .ok (.aload_n 0, 1) := by decide +kernel
theorem dL_law_933 : decode code 933 = .ok (.iload 4, 2) := by decide +kernel
theorem dL_law_935 : decode code 935 = .ok (.iconst 4, 1) := by decide +kernel
theorem dL_law_936 : decode code 936 = .ok (.iadd, 1) := by decide +kernel
theorem dL_law_937 : decode code 937 = .ok (.iaload, 1) := by decide +kernel
theorem dL_law_938 : decode code 938 = .ok (.invokevirtual 147, 3) := by decide +kernel
theorem dL_law_941 : decode code 941 = .ok (.istore 6, 2) := by decide +kernel
theorem dL_law_943 : decode code 943 = .ok (.aload_n 2, 1) := by decide +kernel
theorem dL_law_944 : decode code 944 = .ok (.invokevirtual 101, 3) := by decide +kernel
theorem dL_law_947 : decode code 947 = .ok (.iload 5, 2) := by decide +kernel
theorem dL_law_949 : decode code 949 = .ok (.if_icmp .eq 5, 3) := by decide +kernel
theorem dL_law_952 : decode code 952 = .ok (.iconst 0, 1) := by decide +kernel
theorem dL_law_953 : decode code 953 = .ok (.ireturn, 1) := by decide +kernel
theorem dL_law_954 : decode code 954 = .ok (.iload 5, 2) := by decide +kernel
theorem dL_law_956 : decode code 956 = .ok (.ifCond .ne 15, 3) := by decide +kernel
theorem dL_law_959 : decode code 959 = .ok (.aload_n 3, 1) := by decide +kernel
theorem dL_law_960 : decode code 960 = .ok (.iconst 0, 1) := by decide +kernel
theorem dL_law_961 : decode code 961 = .ok (.laload, 1) := by decide +kernel
theorem dL_law_962 : decode code 962 = .ok (.iload 6, 2) := by decide +kernel
theorem dL_law_964 : decode code 964 = .ok (.i2l, 1) := by decide +kernel
theorem dL_law_965 : decode code 965 = .ok (.lcmp, 1) := by decide +kernel
theorem dL_law_966 : decode code 966 = .ok (.ifCond .eq 5, 3) := by decide +kernel
theorem dL_law_969 : decode code 969 = .ok (.iconst 0, 1) := by decide +kernel
theorem dL_law_970 : decode code 970 = .ok (.ireturn, 1) := by decide +kernel
theorem dL_law_971 : decode code 971 = .ok (.goto 654, 3) := by decide +kernel
theorem dL_law_974 : decode code 974 = .ok (.aload_n 1, 1) := by decide +kernel
theorem dL_law_975 : decode code 975 = .ok (.aload_n 0, 1) := by decide +kernel
theorem dL_law_976 : decode code 976 = .ok (.iload 4, 2) := by decide +kernel
theorem dL_law_978 : decode code 978 = .ok (.iconst 1, 1) := by decide +kernel
theorem dL_law_979 : decode code 979 = .ok (.iadd, 1) := by decide +kernel
theorem dL_law_980 : decode code 980 = .ok (.iaload, 1) := by decide +kernel
theorem dL_law_981 : decode code 981 = .ok (.aload_n 3, 1) := by decide +kernel
theorem dL_law_982 : decode code 982 = .ok (.invokestatic 148, 3) := by decide +kernel
theorem dL_law_985 : decode code 985 = .ok (.istore 5, 2) := by decide +kernel
theorem dL_law_987 : decode code 987 = .ok (.aload_n 2, 1) := by decide +kernel
theorem dL_law_988 : decode code 988 = .ok (.aload_n 0, 1) := by decide +kernel
theorem dL_law_989 : decode code 989 = .ok (.iload 4, 2) := by decide +kernel
theorem dL_law_991 : decode code 991 = .ok (.iconst 1, 1) := by decide +kernel
theorem dL_law_992 : decode code 992 = .ok (.iadd, 1) := by decide +kernel
theorem dL_law_993 : decode code 993 = .ok (.iaload, 1) := by decide +kernel
theorem dL_law_994 : decode code 994 = .ok (.invokevirtual 150, 3) := by decide +kernel
theorem dL_law_997 : decode code 997 = .ok (.istore 6, 2) := by decide +kernel
theorem dL_law_999 : decode code 999 = .ok (.aload_n 2, 1) := by decide +kernel
theorem dL_law_1000 : decode code 1000 = .ok (.invokevirtual 101, 3) := by decide +kernel
theorem dL_law_1003 : decode code 1003 = .ok (.iload 5, 2) := by decide +kernel
theorem dL_law_1005 : decode code 1005 = .ok (.if_icmp .eq 5, 3) := by decide +kernel
theorem dL_law_1008 : decode code 1008 = .ok (.iconst 0, 1) := by decide +kernel
theorem dL_law_1009 : decode code 1009 = .ok (.ireturn, 1) := by decide +kernel
theorem dL_law_1010 : decode code 1010 = .ok (.iload 5, 2) := by decide +kernel
theorem dL_law_1012 : decode code 1012 = .ok (.ifCond .ne 15, 3) := by decide +kernel
theorem dL_law_1015 : decode code 1015 = .ok (.aload_n 3, 1) := by decide +kernel
theorem dL_law_1016 : decode code 1016 = .ok (.iconst 0, 1) := by decide +kernel
theorem dL_law_1017 : decode code 1017 = .ok (.laload, 1) := by decide +kernel
theorem dL_law_1018 : decode code 1018 = .ok (.iload 6, 2) := by decide +kernel
theorem dL_law_1020 : decode code 1020 = .ok (.i2l, 1) := by decide +kernel
theorem dL_law_1021 : decode code 1021 = .ok (.lcmp, 1) := by decide +kernel
theorem dL_law_1022 : decode code 1022 = .ok (.ifCond .eq 5, 3) := by decide +kernel
theorem dL_law_1025 : decode code 1025 = .ok (.iconst 0, 1) := by decide +kernel
theorem dL_law_1026 : decode code 1026 = .ok (.ireturn, 1) := by decide +kernel
theorem dL_law_1027 : decode code 1027 = .ok (.goto 598, 3) := by decide +kernel
theorem dL_law_1030 : decode code 1030 = .ok (.aload_n 1, 1) := by decide +kernel
theorem dL_law_1031 : decode code 1031 = .ok (.aload_n 0, 1) := by decide +kernel
theorem dL_law_1032 : decode code 1032 = .ok (.iload 4, 2) := by decide +kernel
theorem dL_law_1034 : decode code 1034 = .ok (.iconst 1, 1) := by decide +kernel
theorem dL_law_1035 : decode code 1035 = .ok (.iadd, 1) := by decide +kernel
theorem dL_law_1036 : decode code 1036 = .ok (.iaload, 1) := by decide +kernel
theorem dL_law_1037 : decode code 1037 = .ok (.aload_n 3, 1) := by decide +kernel
theorem dL_law_1038 : decode code 1038 = .ok (.invokestatic 151, 3) := by decide +kernel
theorem dL_law_1041 : decode code 1041 = .ok (.istore 5, 2) := by decide +kernel
theorem dL_law_1043 : decode code 1043 = .ok (.aload_n 2, 1) := by decide +kernel
theorem dL_law_1044 : decode code 1044 = .ok (.aload_n 0, 1) := by decide +kernel
theorem dL_law_1045 : decode code 1045 = .ok (.iload 4, 2) := by decide +kernel
theorem dL_law_1047 : decode code 1047 = .ok (.iconst 1, 1) := by decide +kernel
theorem dL_law_1048 : decode code 1048 = .ok (.iadd, 1) := by decide +kernel
theorem dL_law_1049 : decode code 1049 = .ok (.iaload, 1) := by decide +kernel
theorem dL_law_1050 : decode code 1050 = .ok (.invokevirtual 153, 3) := by decide +kernel
theorem dL_law_1053 : decode code 1053 = .ok (.istore 6, 2) := by decide +kernel
theorem dL_law_1055 : decode code 1055 = .ok (.aload_n 2, 1) := by decide +kernel
theorem dL_law_1056 : decode code 1056 = .ok (.invokevirtual 101, 3) := by decide +kernel
theorem dL_law_1059 : decode code 1059 = .ok (.iload 5, 2) := by decide +kernel
theorem dL_law_1061 : decode code 1061 = .ok (.if_icmp .eq 5, 3) := by decide +kernel
theorem dL_law_1064 : decode code 1064 = .ok (.iconst 0, 1) := by decide +kernel
theorem dL_law_1065 : decode code 1065 = .ok (.ireturn, 1) := by decide +kernel
theorem dL_law_1066 : decode code 1066 = .ok (.iload 5, 2) := by decide +kernel
theorem dL_law_1068 : decode code 1068 = .ok (.ifCond .ne 15, 3) := by decide +kernel
theorem dL_law_1071 : decode code 1071 = .ok (.aload_n 3, 1) := by decide +kernel
theorem dL_law_1072 : decode code 1072 = .ok (.iconst 0, 1) := by decide +kernel
theorem dL_law_1073 : decode code 1073 = .ok (.laload, 1) := by decide +kernel
theorem dL_law_1074 : decode code 1074 = .ok (.iload 6, 2) := by decide +kernel
theorem dL_law_1076 : decode code 1076 = .ok (.i2l, 1) := by decide +kernel
theorem dL_law_1077 : decode code 1077 = .ok (.lcmp, 1) := by decide +kernel
theorem dL_law_1078 : decode code 1078 = .ok (.ifCond .eq 5, 3) := by decide +kernel
theorem dL_law_1081 : decode code 1081 = .ok (.iconst 0, 1) := by decide +kernel
theorem dL_law_1082 : decode code 1082 = .ok (.ireturn, 1) := by decide +kernel
theorem dL_law_1083 : decode code 1083 = .ok (.goto 542, 3) := by decide +kernel
theorem dL_law_1086 : decode code 1086 = .ok (.aload_n 1, 1) := by decide +kernel
theorem dL_law_1087 : decode code 1087 = .ok (.aload_n 0, 1) := by decide +kernel
theorem dL_law_1088 : decode code 1088 = .ok (.iload 4, 2) := by decide +kernel
theorem dL_law_1090 : decode code 1090 = .ok (.iconst 1, 1) := by decide +kernel
theorem dL_law_1091 : decode code 1091 = .ok (.iadd, 1) := by decide +kernel
theorem dL_law_1092 : decode code 1092 = .ok (.iaload, 1) := by decide +kernel
theorem dL_law_1093 : decode code 1093 = .ok (.aload_n 0, 1) := by decide +kernel
theorem dL_law_1094 : decode code 1094 = .ok (.iload 4, 2) := by decide +kernel
theorem dL_law_1096 : decode code 1096 = .ok (.iconst 2, 1) := by decide +kernel
theorem dL_law_1097 : decode code 1097 = .ok (.iadd, 1) := by decide +kernel
theorem dL_law_1098 : decode code 1098 = .ok (.iaload, 1) := by decide +kernel
theorem dL_law_1099 : decode code 1099 = .ok (.aload_n 3, 1) := by decide +kernel
theorem dL_law_1100 : decode code 1100 = .ok (.invokestatic 154, 3) := by decide +kernel
theorem dL_law_1103 : decode code 1103 = .ok (.istore 5, 2) := by decide +kernel
theorem dL_law_1105 : decode code 1105 = .ok (.aload_n 2, 1) := by decide +kernel
theorem dL_law_1106 : decode code 1106 = .ok (.aload_n 0, 1) := by decide +kernel
theorem dL_law_1107 : decode code 1107 = .ok (.iload 4, 2) := by decide +kernel
theorem dL_law_1109 : decode code 1109 = .ok (.iconst 1, 1) := by decide +kernel
theorem dL_law_1110 : decode code 1110 = .ok (.iadd, 1) := by decide +kernel
theorem dL_law_1111 : decode code 1111 = .ok (.iaload, 1) := by decide +kernel
theorem dL_law_1112 : decode code 1112 = .ok (.aload_n 0, 1) := by decide +kernel
theorem dL_law_1113 : decode code 1113 = .ok (.iload 4, 2) := by decide +kernel
theorem dL_law_1115 : decode code 1115 = .ok (.iconst 2, 1) := by decide +kernel
theorem dL_law_1116 : decode code 1116 = .ok (.iadd, 1) := by decide +kernel
theorem dL_law_1117 : decode code 1117 = .ok (.iaload, 1) := by decide +kernel
theorem dL_law_1118 : decode code 1118 = .ok (.invokevirtual 156, 3) := by decide +kernel
theorem dL_law_1121 : decode code 1121 = .ok (.istore 6, 2) := by decide +kernel
theorem dL_law_1123 : decode code 1123 = .ok (.aload_n 2, 1) := by decide +kernel
theorem dL_law_1124 : decode code 1124 = .ok (.invokevirtual 101, 3) := by decide +kernel
theorem dL_law_1127 : decode code 1127 = .ok (.iload 5, 2) := by decide +kernel
theorem dL_law_1129 : decode code 1129 = .ok (.if_icmp .eq 5, 3) := by decide +kernel
theorem dL_law_1132 : decode code 1132 = .ok (.iconst 0, 1) := by decide +kernel
theorem dL_law_1133 : decode code 1133 = .ok (.ireturn, 1) := by decide +kernel
theorem dL_law_1134 : decode code 1134 = .ok (.iload 5, 2) := by decide +kernel
theorem dL_law_1136 : decode code 1136 = .ok (.ifCond .ne 15, 3) := by decide +kernel
theorem dL_law_1139 : decode code 1139 = .ok (.aload_n 3, 1) := by decide +kernel
theorem dL_law_1140 : decode code 1140 = .ok (.iconst 0, 1) := by decide +kernel
theorem dL_law_1141 : decode code 1141 = .ok (.laload, 1) := by decide +kernel
theorem dL_law_1142 : decode code 1142 = .ok (.iload 6, 2) := by decide +kernel
theorem dL_law_1144 : decode code 1144 = .ok (.i2l, 1) := by decide +kernel
theorem dL_law_1145 : decode code 1145 = .ok (.lcmp, 1) := by decide +kernel
theorem dL_law_1146 : decode code 1146 = .ok (.ifCond .eq 5, 3) := by decide +kernel
theorem dL_law_1149 : decode code 1149 = .ok (.iconst 0, 1) := by decide +kernel
theorem dL_law_1150 : decode code 1150 = .ok (.ireturn, 1) := by decide +kernel
theorem dL_law_1151 : decode code 1151 = .ok (.goto 474, 3) := by decide +kernel
theorem dL_law_1154 : decode code 1154 = .ok (.aload_n 1, 1) := by decide +kernel
theorem dL_law_1155 : decode code 1155 = .ok (.aload_n 0, 1) := by decide +kernel
theorem dL_law_1156 : decode code 1156 = .ok (.iload 4, 2) := by decide +kernel
theorem dL_law_1158 : decode code 1158 = .ok (.iconst 1, 1) := by decide +kernel
theorem dL_law_1159 : decode code 1159 = .ok (.iadd, 1) := by decide +kernel
theorem dL_law_1160 : decode code 1160 = .ok (.iaload, 1) := by decide +kernel
theorem dL_law_1161 : decode code 1161 = .ok (.aload_n 0, 1) := by decide +kernel
theorem dL_law_1162 : decode code 1162 = .ok (.iload 4, 2) := by decide +kernel
theorem dL_law_1164 : decode code 1164 = .ok (.iconst 2, 1) := by decide +kernel
theorem dL_law_1165 : decode code 1165 = .ok (.iadd, 1) := by decide +kernel
theorem dL_law_1166 : decode code 1166 = .ok (.iaload, 1) := by decide +kernel
theorem dL_law_1167 : decode code 1167 = .ok (.aload_n 3, 1) := by decide +kernel
theorem dL_law_1168 : decode code 1168 = .ok (.invokestatic 157, 3) := by decide +kernel
theorem dL_law_1171 : decode code 1171 = .ok (.istore 5, 2) := by decide +kernel
theorem dL_law_1173 : decode code 1173 = .ok (.aload_n 2, 1) := by decide +kernel
theorem dL_law_1174 : decode code 1174 = .ok (.aload_n 0, 1) := by decide +kernel
theorem dL_law_1175 : decode code 1175 = .ok (.iload 4, 2) := by decide +kernel
theorem dL_law_1177 : decode code 1177 = .ok (.iconst 1, 1) := by decide +kernel
theorem dL_law_1178 : decode code 1178 = .ok (.iadd, 1) := by decide +kernel
theorem dL_law_1179 : decode code 1179 = .ok (.iaload, 1) := by decide +kernel
theorem dL_law_1180 : decode code 1180 = .ok (.aload_n 0, 1) := by decide +kernel
theorem dL_law_1181 : decode code 1181 = .ok (.iload 4, 2) := by decide +kernel
theorem dL_law_1183 : decode code 1183 = .ok (.iconst 2, 1) := by decide +kernel
theorem dL_law_1184 : decode code 1184 = .ok (.iadd, 1) := by decide +kernel
theorem dL_law_1185 : decode code 1185 = .ok (.iaload, 1) := by decide +kernel
theorem dL_law_1186 : decode code 1186 = .ok (.invokevirtual 159, 3) := by decide +kernel
theorem dL_law_1189 : decode code 1189 = .ok (.istore 6, 2) := by decide +kernel
theorem dL_law_1191 : decode code 1191 = .ok (.aload_n 2, 1) := by decide +kernel
theorem dL_law_1192 : decode code 1192 = .ok (.invokevirtual 101, 3) := by decide +kernel
theorem dL_law_1195 : decode code 1195 = .ok (.iload 5, 2) := by decide +kernel
theorem dL_law_1197 : decode code 1197 = .ok (.if_icmp .eq 5, 3) := by decide +kernel
theorem dL_law_1200 : decode code 1200 = .ok (.iconst 0, 1) := by decide +kernel
theorem dL_law_1201 : decode code 1201 = .ok (.ireturn, 1) := by decide +kernel
theorem dL_law_1202 : decode code 1202 = .ok (.iload 5, 2) := by decide +kernel
theorem dL_law_1204 : decode code 1204 = .ok (.ifCond .ne 15, 3) := by decide +kernel
theorem dL_law_1207 : decode code 1207 = .ok (.aload_n 3, 1) := by decide +kernel
theorem dL_law_1208 : decode code 1208 = .ok (.iconst 0, 1) := by decide +kernel
theorem dL_law_1209 : decode code 1209 = .ok (.laload, 1) := by decide +kernel
theorem dL_law_1210 : decode code 1210 = .ok (.iload 6, 2) := by decide +kernel
theorem dL_law_1212 : decode code 1212 = .ok (.i2l, 1) := by decide +kernel
theorem dL_law_1213 : decode code 1213 = .ok (.lcmp, 1) := by decide +kernel
theorem dL_law_1214 : decode code 1214 = .ok (.ifCond .eq 5, 3) := by decide +kernel
theorem dL_law_1217 : decode code 1217 = .ok (.iconst 0, 1) := by decide +kernel
theorem dL_law_1218 : decode code 1218 = .ok (.ireturn, 1) := by decide +kernel
theorem dL_law_1219 : decode code 1219 = .ok (.goto 406, 3) := by decide +kernel
theorem dL_law_1222 : decode code 1222 = .ok (.aload_n 1, 1) := by decide +kernel
theorem dL_law_1223 : decode code 1223 = .ok (.aload_n 0, 1) := by decide +kernel
theorem dL_law_1224 : decode code 1224 = .ok (.iload 4, 2) := by decide +kernel
theorem dL_law_1226 : decode code 1226 = .ok (.iconst 1, 1) := by decide +kernel
theorem dL_law_1227 : decode code 1227 = .ok (.iadd, 1) := by decide +kernel
theorem dL_law_1228 : decode code 1228 = .ok (.iaload, 1) := by decide +kernel
theorem dL_law_1229 : decode code 1229 = .ok (.aload_n 0, 1) := by decide +kernel
theorem dL_law_1230 : decode code 1230 = .ok (.iload 4, 2) := by decide +kernel
theorem dL_law_1232 : decode code 1232 = .ok (.iconst 2, 1) := by decide +kernel
theorem dL_law_1233 : decode code 1233 = .ok (.iadd, 1) := by decide +kernel
theorem dL_law_1234 : decode code 1234 = .ok (.iaload, 1) := by decide +kernel
theorem dL_law_1235 : decode code 1235 = .ok (.aload_n 3, 1) := by decide +kernel
theorem dL_law_1236 : decode code 1236 = .ok (.invokestatic 160, 3) := by decide +kernel
theorem dL_law_1239 : decode code 1239 = .ok (.istore 5, 2) := by decide +kernel
theorem dL_law_1241 : decode code 1241 = .ok (.aload_n 2, 1) := by decide +kernel
theorem dL_law_1242 : decode code 1242 = .ok (.aload_n 0, 1) := by decide +kernel
theorem dL_law_1243 : decode code 1243 = .ok (.iload 4, 2) := by decide +kernel
theorem dL_law_1245 : decode code 1245 = .ok (.iconst 1, 1) := by decide +kernel
theorem dL_law_1246 : decode code 1246 = .ok (.iadd, 1) := by decide +kernel
theorem dL_law_1247 : decode code 1247 = .ok (.iaload, 1) := by decide +kernel
theorem dL_law_1248 : decode code 1248 = .ok (.aload_n 0, 1) := by decide +kernel
theorem dL_law_1249 : decode code 1249 = .ok (.iload 4, 2) := by decide +kernel
theorem dL_law_1251 : decode code 1251 = .ok (.iconst 2, 1) := by decide +kernel
theorem dL_law_1252 : decode code 1252 = .ok (.iadd, 1) := by decide +kernel
theorem dL_law_1253 : decode code 1253 = .ok (.iaload, 1) := by decide +kernel
theorem dL_law_1254 : decode code 1254 = .ok (.invokevirtual 162, 3) := by decide +kernel
theorem dL_law_1257 : decode code 1257 = .ok (.istore 6, 2) := by decide +kernel
theorem dL_law_1259 : decode code 1259 = .ok (.aload_n 2, 1) := by decide +kernel
theorem dL_law_1260 : decode code 1260 = .ok (.invokevirtual 101, 3) := by decide +kernel
theorem dL_law_1263 : decode code 1263 = .ok (.iload 5, 2) := by decide +kernel
theorem dL_law_1265 : decode code 1265 = .ok (.if_icmp .eq 5, 3) := by decide +kernel
theorem dL_law_1268 : decode code 1268 = .ok (.iconst 0, 1) := by decide +kernel
theorem dL_law_1269 : decode code 1269 = .ok (.ireturn, 1) := by decide +kernel
theorem dL_law_1270 : decode code 1270 = .ok (.iload 5, 2) := by decide +kernel
theorem dL_law_1272 : decode code 1272 = .ok (.ifCond .ne 15, 3) := by decide +kernel
theorem dL_law_1275 : decode code 1275 = .ok (.aload_n 3, 1) := by decide +kernel
theorem dL_law_1276 : decode code 1276 = .ok (.iconst 0, 1) := by decide +kernel
theorem dL_law_1277 : decode code 1277 = .ok (.laload, 1) := by decide +kernel
theorem dL_law_1278 : decode code 1278 = .ok (.iload 6, 2) := by decide +kernel
theorem dL_law_1280 : decode code 1280 = .ok (.i2l, 1) := by decide +kernel
theorem dL_law_1281 : decode code 1281 = .ok (.lcmp, 1) := by decide +kernel
theorem dL_law_1282 : decode code 1282 = .ok (.ifCond .eq 5, 3) := by decide +kernel
theorem dL_law_1285 : decode code 1285 = .ok (.iconst 0, 1) := by decide +kernel
theorem dL_law_1286 : decode code 1286 = .ok (.ireturn, 1) := by decide +kernel
theorem dL_law_1287 : decode code 1287 = .ok (.goto 338, 3) := by decide +kernel
theorem dL_law_1290 : decode code 1290 = .ok (.aload_n 1, 1) := by decide +kernel
theorem dL_law_1291 : decode code 1291 = .ok (.aload_n 0, 1) := by decide +kernel
theorem dL_law_1292 : decode code 1292 = .ok (.iload 4, 2) := by decide +kernel
theorem dL_law_1294 : decode code 1294 = .ok (.iconst 1, 1) := by decide +kernel
theorem dL_law_1295 : decode code 1295 = .ok (.iadd, 1) := by decide +kernel
theorem dL_law_1296 : decode code 1296 = .ok (.iaload, 1) := by decide +kernel
theorem dL_law_1297 : decode code 1297 = .ok (.aload_n 0, 1) := by decide +kernel
theorem dL_law_1298 : decode code 1298 = .ok (.iload 4, 2) := by decide +kernel
theorem dL_law_1300 : decode code 1300 = .ok (.iconst 2, 1) := by decide +kernel
theorem dL_law_1301 : decode code 1301 = .ok (.iadd, 1) := by decide +kernel
theorem dL_law_1302 : decode code 1302 = .ok (.iaload, 1) := by decide +kernel
theorem dL_law_1303 : decode code 1303 = .ok (.aload_n 0, 1) := by decide +kernel
theorem dL_law_1304 : decode code 1304 = .ok (.iload 4, 2) := by decide +kernel
theorem dL_law_1306 : decode code 1306 = .ok (.iconst 3, 1) := by decide +kernel
theorem dL_law_1307 : decode code 1307 = .ok (.iadd, 1) := by decide +kernel
theorem dL_law_1308 : decode code 1308 = .ok (.iaload, 1) := by decide +kernel
theorem dL_law_1309 : decode code 1309 = .ok (.aload_n 3, 1) := by decide +kernel
theorem dL_law_1310 : decode code 1310 = .ok (.invokestatic 163, 3) := by decide +kernel
theorem dL_law_1313 : decode code 1313 = .ok (.istore 5, 2) := by decide +kernel
theorem dL_law_1315 : decode code 1315 = .ok (.aload_n 2, 1) := by decide +kernel
theorem dL_law_1316 : decode code 1316 = .ok (.aload_n 0, 1) := by decide +kernel
theorem dL_law_1317 : decode code 1317 = .ok (.iload 4, 2) := by decide +kernel
theorem dL_law_1319 : decode code 1319 = .ok (.iconst 1, 1) := by decide +kernel
theorem dL_law_1320 : decode code 1320 = .ok (.iadd, 1) := by decide +kernel
theorem dL_law_1321 : decode code 1321 = .ok (.iaload, 1) := by decide +kernel
theorem dL_law_1322 : decode code 1322 = .ok (.aload_n 0, 1) := by decide +kernel
theorem dL_law_1323 : decode code 1323 = .ok (.iload 4, 2) := by decide +kernel
theorem dL_law_1325 : decode code 1325 = .ok (.iconst 2, 1) := by decide +kernel
theorem dL_law_1326 : decode code 1326 = .ok (.iadd, 1) := by decide +kernel
theorem dL_law_1327 : decode code 1327 = .ok (.iaload, 1) := by decide +kernel
theorem dL_law_1328 : decode code 1328 = .ok (.aload_n 0, 1) := by decide +kernel
theorem dL_law_1329 : decode code 1329 = .ok (.iload 4, 2) := by decide +kernel
theorem dL_law_1331 : decode code 1331 = .ok (.iconst 3, 1) := by decide +kernel
theorem dL_law_1332 : decode code 1332 = .ok (.iadd, 1) := by decide +kernel
theorem dL_law_1333 : decode code 1333 = .ok (.iaload, 1) := by decide +kernel
theorem dL_law_1334 : decode code 1334 = .ok (.invokevirtual 165, 3) := by decide +kernel
theorem dL_law_1337 : decode code 1337 = .ok (.istore 6, 2) := by decide +kernel
theorem dL_law_1339 : decode code 1339 = .ok (.aload_n 2, 1) := by decide +kernel
theorem dL_law_1340 : decode code 1340 = .ok (.invokevirtual 101, 3) := by decide +kernel
theorem dL_law_1343 : decode code 1343 = .ok (.iload 5, 2) := by decide +kernel
theorem dL_law_1345 : decode code 1345 = .ok (.if_icmp .eq 5, 3) := by decide +kernel
theorem dL_law_1348 : decode code 1348 = .ok (.iconst 0, 1) := by decide +kernel
theorem dL_law_1349 : decode code 1349 = .ok (.ireturn, 1) := by decide +kernel
theorem dL_law_1350 : decode code 1350 = .ok (.iload 5, 2) := by decide +kernel
theorem dL_law_1352 : decode code 1352 = .ok (.ifCond .ne 15, 3) := by decide +kernel
theorem dL_law_1355 : decode code 1355 = .ok (.aload_n 3, 1) := by decide +kernel
theorem dL_law_1356 : decode code 1356 = .ok (.iconst 0, 1) := by decide +kernel
theorem dL_law_1357 : decode code 1357 = .ok (.laload, 1) := by decide +kernel
theorem dL_law_1358 : decode code 1358 = .ok (.iload 6, 2) := by decide +kernel
theorem dL_law_1360 : decode code 1360 = .ok (.i2l, 1) := by decide +kernel
theorem dL_law_1361 : decode code 1361 = .ok (.lcmp, 1) := by decide +kernel
theorem dL_law_1362 : decode code 1362 = .ok (.ifCond .eq 5, 3) := by decide +kernel
theorem dL_law_1365 : decode code 1365 = .ok (.iconst 0, 1) := by decide +kernel
theorem dL_law_1366 : decode code 1366 = .ok (.ireturn, 1) := by decide +kernel
theorem dL_law_1367 : decode code 1367 = .ok (.goto 258, 3) := by decide +kernel
theorem dL_law_1370 : decode code 1370 = .ok (.aload_n 1, 1) := by decide +kernel
theorem dL_law_1371 : decode code 1371 = .ok (.aload_n 0, 1) := by decide +kernel
theorem dL_law_1372 : decode code 1372 = .ok (.iload 4, 2) := by decide +kernel
theorem dL_law_1374 : decode code 1374 = .ok (.iconst 1, 1) := by decide +kernel
theorem dL_law_1375 : decode code 1375 = .ok (.iadd, 1) := by decide +kernel
theorem dL_law_1376 : decode code 1376 = .ok (.iaload, 1) := by decide +kernel
theorem dL_law_1377 : decode code 1377 = .ok (.aload_n 0, 1) := by decide +kernel
theorem dL_law_1378 : decode code 1378 = .ok (.iload 4, 2) := by decide +kernel
theorem dL_law_1380 : decode code 1380 = .ok (.iconst 2, 1) := by decide +kernel
theorem dL_law_1381 : decode code 1381 = .ok (.iadd, 1) := by decide +kernel
theorem dL_law_1382 : decode code 1382 = .ok (.iaload, 1) := by decide +kernel
theorem dL_law_1383 : decode code 1383 = .ok (.aload_n 0, 1) := by decide +kernel
theorem dL_law_1384 : decode code 1384 = .ok (.iload 4, 2) := by decide +kernel
theorem dL_law_1386 : decode code 1386 = .ok (.iconst 3, 1) := by decide +kernel
theorem dL_law_1387 : decode code 1387 = .ok (.iadd, 1) := by decide +kernel
theorem dL_law_1388 : decode code 1388 = .ok (.iaload, 1) := by decide +kernel
theorem dL_law_1389 : decode code 1389 = .ok (.aload_n 3, 1) := by decide +kernel
theorem dL_law_1390 : decode code 1390 = .ok (.invokestatic 166, 3) := by decide +kernel
theorem dL_law_1393 : decode code 1393 = .ok (.istore 5, 2) := by decide +kernel
theorem dL_law_1395 : decode code 1395 = .ok (.aload_n 2, 1) := by decide +kernel
theorem dL_law_1396 : decode code 1396 = .ok (.aload_n 0, 1) := by decide +kernel
theorem dL_law_1397 : decode code 1397 = .ok (.iload 4, 2) := by decide +kernel
theorem dL_law_1399 : decode code 1399 = .ok (.iconst 1, 1) := by decide +kernel
theorem dL_law_1400 : decode code 1400 = .ok (.iadd, 1) := by decide +kernel
theorem dL_law_1401 : decode code 1401 = .ok (.iaload, 1) := by decide +kernel
theorem dL_law_1402 : decode code 1402 = .ok (.aload_n 0, 1) := by decide +kernel
theorem dL_law_1403 : decode code 1403 = .ok (.iload 4, 2) := by decide +kernel
theorem dL_law_1405 : decode code 1405 = .ok (.iconst 2, 1) := by decide +kernel
theorem dL_law_1406 : decode code 1406 = .ok (.iadd, 1) := by decide +kernel
theorem dL_law_1407 : decode code 1407 = .ok (.iaload, 1) := by decide +kernel
theorem dL_law_1408 : decode code 1408 = .ok (.aload_n 0, 1) := by decide +kernel
theorem dL_law_1409 : decode code 1409 = .ok (.iload 4, 2) := by decide +kernel
theorem dL_law_1411 : decode code 1411 = .ok (.iconst 3, 1) := by decide +kernel
theorem dL_law_1412 : decode code 1412 = .ok (.iadd, 1) := by decide +kernel
theorem dL_law_1413 : decode code 1413 = .ok (.iaload, 1) := by decide +kernel
theorem dL_law_1414 : decode code 1414 = .ok (.invokevirtual 168, 3) := by decide +kernel
theorem dL_law_1417 : decode code 1417 = .ok (.istore 6, 2) := by decide +kernel
theorem dL_law_1419 : decode code 1419 = .ok (.aload_n 2, 1) := by decide +kernel
theorem dL_law_1420 : decode code 1420 = .ok (.invokevirtual 101, 3) := by decide +kernel
theorem dL_law_1423 : decode code 1423 = .ok (.iload 5, 2) := by decide +kernel
theorem dL_law_1425 : decode code 1425 = .ok (.if_icmp .eq 5, 3) := by decide +kernel
theorem dL_law_1428 : decode code 1428 = .ok (.iconst 0, 1) := by decide +kernel
theorem dL_law_1429 : decode code 1429 = .ok (.ireturn, 1) := by decide +kernel
theorem dL_law_1430 : decode code 1430 = .ok (.iload 5, 2) := by decide +kernel
theorem dL_law_1432 : decode code 1432 = .ok (.ifCond .ne 15, 3) := by decide +kernel
theorem dL_law_1435 : decode code 1435 = .ok (.aload_n 3, 1) := by decide +kernel
theorem dL_law_1436 : decode code 1436 = .ok (.iconst 0, 1) := by decide +kernel
theorem dL_law_1437 : decode code 1437 = .ok (.laload, 1) := by decide +kernel
theorem dL_law_1438 : decode code 1438 = .ok (.iload 6, 2) := by decide +kernel
theorem dL_law_1440 : decode code 1440 = .ok (.i2l, 1) := by decide +kernel
theorem dL_law_1441 : decode code 1441 = .ok (.lcmp, 1) := by decide +kernel
theorem dL_law_1442 : decode code 1442 = .ok (.ifCond .eq 5, 3) := by decide +kernel
theorem dL_law_1445 : decode code 1445 = .ok (.iconst 0, 1) := by decide +kernel
theorem dL_law_1446 : decode code 1446 = .ok (.ireturn, 1) := by decide +kernel
theorem dL_law_1447 : decode code 1447 = .ok (.goto 178, 3) := by decide +kernel
theorem dL_law_1450 : decode code 1450 = .ok (.aload_n 1, 1) := by decide +kernel
theorem dL_law_1451 : decode code 1451 = .ok (.aload_n 0, 1) := by decide +kernel
theorem dL_law_1452 : decode code 1452 = .ok (.iload 4, 2) := by decide +kernel
theorem dL_law_1454 : decode code 1454 = .ok (.iconst 1, 1) := by decide +kernel
theorem dL_law_1455 : decode code 1455 = .ok (.iadd, 1) := by decide +kernel
theorem dL_law_1456 : decode code 1456 = .ok (.iaload, 1) := by decide +kernel
theorem dL_law_1457 : decode code 1457 = .ok (.aload_n 3, 1) := by decide +kernel
theorem dL_law_1458 : decode code 1458 = .ok (.invokestatic 169, 3) := by decide +kernel
theorem dL_law_1461 : decode code 1461 = .ok (.istore 5, 2) := by decide +kernel
theorem dL_law_1463 : decode code 1463 = .ok (.aload_n 2, 1) := by decide +kernel
theorem dL_law_1464 : decode code 1464 = .ok (.aload_n 0, 1) := by decide +kernel
theorem dL_law_1465 : decode code 1465 = .ok (.iload 4, 2) := by decide +kernel
theorem dL_law_1467 : decode code 1467 = .ok (.iconst 1, 1) := by decide +kernel
theorem dL_law_1468 : decode code 1468 = .ok (.iadd, 1) := by decide +kernel
theorem dL_law_1469 : decode code 1469 = .ok (.iaload, 1) := by decide +kernel
theorem dL_law_1470 : decode code 1470 = .ok (.invokevirtual 171, 3) := by decide +kernel
theorem dL_law_1473 : decode code 1473 = .ok (.istore 6, 2) := by decide +kernel
theorem dL_law_1475 : decode code 1475 = .ok (.aload_n 2, 1) := by decide +kernel
theorem dL_law_1476 : decode code 1476 = .ok (.invokevirtual 101, 3) := by decide +kernel
theorem dL_law_1479 : decode code 1479 = .ok (.iload 5, 2) := by decide +kernel
theorem dL_law_1481 : decode code 1481 = .ok (.if_icmp .eq 5, 3) := by decide +kernel
theorem dL_law_1484 : decode code 1484 = .ok (.iconst 0, 1) := by decide +kernel
theorem dL_law_1485 : decode code 1485 = .ok (.ireturn, 1) := by decide +kernel
theorem dL_law_1486 : decode code 1486 = .ok (.iload 5, 2) := by decide +kernel
theorem dL_law_1488 : decode code 1488 = .ok (.ifCond .ne 15, 3) := by decide +kernel
theorem dL_law_1491 : decode code 1491 = .ok (.aload_n 3, 1) := by decide +kernel
theorem dL_law_1492 : decode code 1492 = .ok (.iconst 0, 1) := by decide +kernel
theorem dL_law_1493 : decode code 1493 = .ok (.laload, 1) := by decide +kernel
theorem dL_law_1494 : decode code 1494 = .ok (.iload 6, 2) := by decide +kernel
theorem dL_law_1496 : decode code 1496 = .ok (.i2l, 1) := by decide +kernel
theorem dL_law_1497 : decode code 1497 = .ok (.lcmp, 1) := by decide +kernel
theorem dL_law_1498 : decode code 1498 = .ok (.ifCond .eq 5, 3) := by decide +kernel
theorem dL_law_1501 : decode code 1501 = .ok (.iconst 0, 1) := by decide +kernel
theorem dL_law_1502 : decode code 1502 = .ok (.ireturn, 1) := by decide +kernel
theorem dL_law_1503 : decode code 1503 = .ok (.goto 122, 3) := by decide +kernel
theorem dL_law_1506 : decode code 1506 = .ok (.aload_n 1, 1) := by decide +kernel
theorem dL_law_1507 : decode code 1507 = .ok (.aload_n 0, 1) := by decide +kernel
theorem dL_law_1508 : decode code 1508 = .ok (.iload 4, 2) := by decide +kernel
theorem dL_law_1510 : decode code 1510 = .ok (.iconst 1, 1) := by decide +kernel
theorem dL_law_1511 : decode code 1511 = .ok (.iadd, 1) := by decide +kernel
theorem dL_law_1512 : decode code 1512 = .ok (.iaload, 1) := by decide +kernel
theorem dL_law_1513 : decode code 1513 = .ok (.aload_n 3, 1) := by decide +kernel
theorem dL_law_1514 : decode code 1514 = .ok (.invokestatic 172, 3) := by decide +kernel
theorem dL_law_1517 : decode code 1517 = .ok (.istore 5, 2) := by decide +kernel
theorem dL_law_1519 : decode code 1519 = .ok (.aload_n 2, 1) := by decide +kernel
theorem dL_law_1520 : decode code 1520 = .ok (.aload_n 0, 1) := by decide +kernel
theorem dL_law_1521 : decode code 1521 = .ok (.iload 4, 2) := by decide +kernel
theorem dL_law_1523 : decode code 1523 = .ok (.iconst 1, 1) := by decide +kernel
theorem dL_law_1524 : decode code 1524 = .ok (.iadd, 1) := by decide +kernel
theorem dL_law_1525 : decode code 1525 = .ok (.iaload, 1) := by decide +kernel
theorem dL_law_1526 : decode code 1526 = .ok (.invokevirtual 174, 3) := by decide +kernel
theorem dL_law_1529 : decode code 1529 = .ok (.istore 6, 2) := by decide +kernel
theorem dL_law_1531 : decode code 1531 = .ok (.aload_n 2, 1) := by decide +kernel
theorem dL_law_1532 : decode code 1532 = .ok (.invokevirtual 101, 3) := by decide +kernel
theorem dL_law_1535 : decode code 1535 = .ok (.iload 5, 2) := by decide +kernel
theorem dL_law_1537 : decode code 1537 = .ok (.if_icmp .eq 5, 3) := by decide +kernel
theorem dL_law_1540 : decode code 1540 = .ok (.iconst 0, 1) := by decide +kernel
theorem dL_law_1541 : decode code 1541 = .ok (.ireturn, 1) := by decide +kernel
theorem dL_law_1542 : decode code 1542 = .ok (.iload 5, 2) := by decide +kernel
theorem dL_law_1544 : decode code 1544 = .ok (.ifCond .ne 22, 3) := by decide +kernel
theorem dL_law_1547 : decode code 1547 = .ok (.aload_n 3, 1) := by decide +kernel
theorem dL_law_1548 : decode code 1548 = .ok (.iconst 0, 1) := by decide +kernel
theorem dL_law_1549 : decode code 1549 = .ok (.laload, 1) := by decide +kernel
theorem dL_law_1550 : decode code 1550 = .ok (.iload 6, 2) := by decide +kernel
theorem dL_law_1552 : decode code 1552 = .ok (.ifCond .eq 7, 3) := by decide +kernel
theorem dL_law_1555 : decode code 1555 = .ok (.lconst 1, 1) := by decide +kernel
theorem dL_law_1556 : decode code 1556 = .ok (.goto 4, 3) := by decide +kernel
theorem dL_law_1559 : decode code 1559 = .ok (.lconst 0, 1) := by decide +kernel
theorem dL_law_1560 : decode code 1560 = .ok (.lcmp, 1) := by decide +kernel
theorem dL_law_1561 : decode code 1561 = .ok (.ifCond .eq 5, 3) := by decide +kernel
theorem dL_law_1564 : decode code 1564 = .ok (.iconst 0, 1) := by decide +kernel
theorem dL_law_1565 : decode code 1565 = .ok (.ireturn, 1) := by decide +kernel
theorem dL_law_1566 : decode code 1566 = .ok (.goto 59, 3) := by decide +kernel
theorem dL_law_1569 : decode code 1569 = .ok (.aload_n 1, 1) := by decide +kernel
theorem dL_law_1570 : decode code 1570 = .ok (.aload_n 0, 1) := by decide +kernel
theorem dL_law_1571 : decode code 1571 = .ok (.iload 4, 2) := by decide +kernel
theorem dL_law_1573 : decode code 1573 = .ok (.iconst 1, 1) := by decide +kernel
theorem dL_law_1574 : decode code 1574 = .ok (.iadd, 1) := by decide +kernel
theorem dL_law_1575 : decode code 1575 = .ok (.iaload, 1) := by decide +kernel
theorem dL_law_1576 : decode code 1576 = .ok (.aload_n 3, 1) := by decide +kernel
theorem dL_law_1577 : decode code 1577 = .ok (.invokestatic 175, 3) := by decide +kernel
theorem dL_law_1580 : decode code 1580 = .ok (.istore 5, 2) := by decide +kernel
theorem dL_law_1582 : decode code 1582 = .ok (.aload_n 2, 1) := by decide +kernel
theorem dL_law_1583 : decode code 1583 = .ok (.aload_n 0, 1) := by decide +kernel
theorem dL_law_1584 : decode code 1584 = .ok (.iload 4, 2) := by decide +kernel
theorem dL_law_1586 : decode code 1586 = .ok (.iconst 1, 1) := by decide +kernel
theorem dL_law_1587 : decode code 1587 = .ok (.iadd, 1) := by decide +kernel
theorem dL_law_1588 : decode code 1588 = .ok (.iaload, 1) := by decide +kernel
theorem dL_law_1589 : decode code 1589 = .ok (.invokevirtual 177, 3) := by decide +kernel
theorem dL_law_1592 : decode code 1592 = .ok (.istore 6, 2) := by decide +kernel
theorem dL_law_1594 : decode code 1594 = .ok (.aload_n 2, 1) := by decide +kernel
theorem dL_law_1595 : decode code 1595 = .ok (.invokevirtual 101, 3) := by decide +kernel
theorem dL_law_1598 : decode code 1598 = .ok (.iload 5, 2) := by decide +kernel
theorem dL_law_1600 : decode code 1600 = .ok (.if_icmp .eq 5, 3) := by decide +kernel
theorem dL_law_1603 : decode code 1603 = .ok (.iconst 0, 1) := by decide +kernel
theorem dL_law_1604 : decode code 1604 = .ok (.ireturn, 1) := by decide +kernel
theorem dL_law_1605 : decode code 1605 = .ok (.iload 5, 2) := by decide +kernel
theorem dL_law_1607 : decode code 1607 = .ok (.ifCond .ne 15, 3) := by decide +kernel
theorem dL_law_1610 : decode code 1610 = .ok (.aload_n 3, 1) := by decide +kernel
theorem dL_law_1611 : decode code 1611 = .ok (.iconst 0, 1) := by decide +kernel
theorem dL_law_1612 : decode code 1612 = .ok (.laload, 1) := by decide +kernel
theorem dL_law_1613 : decode code 1613 = .ok (.iload 6, 2) := by decide +kernel
theorem dL_law_1615 : decode code 1615 = .ok (.i2l, 1) := by decide +kernel
theorem dL_law_1616 : decode code 1616 = .ok (.lcmp, 1) := by decide +kernel
theorem dL_law_1617 : decode code 1617 = .ok (.ifCond .eq 5, 3) := by decide +kernel
theorem dL_law_1620 : decode code 1620 = .ok (.iconst 0, 1) := by decide +kernel
theorem dL_law_1621 : decode code 1621 = .ok (.ireturn, 1) := by decide +kernel
theorem dL_law_1622 : decode code 1622 = .ok (.goto 3, 3) := by decide +kernel
theorem dL_law_1625 : decode code 1625 = .ok (.iinc 4 5, 3) := by decide +kernel
theorem dL_law_1628 : decode code 1628 = .ok (.goto (-1605), 3) := by decide +kernel
theorem dL_law_1631 : decode code 1631 = .ok (.iconst 1, 1) := by decide +kernel
theorem dL_law_1632 : decode code 1632 = .ok (.ireturn, 1) := by decide +kernel

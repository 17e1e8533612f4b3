theorem dL_law_0 : decode cL_law 0 = .ok (.new 8, 3) := by decide +kernel
theorem dL_law_3 : decode cL_law 3 = .ok (.dup, 1) := by decide +kernel
theorem dL_law_4 : decode cL_law 4 = .ok (.invokespecial 122, 3) := by decide +kernel
theorem dL_law_7 : decode cL_law 7 = .ok (.astore_n 1, 1) := by decide +kernel
theorem dL_law_8 : decode cL_law 8 = .ok (.new 123, 3) := by decide +kernel
theorem dL_law_11 : decode cL_law 11 = .ok (.dup, 1) := by decide +kernel
theorem dL_law_12 : decode cL_law 12 = .ok (.invokespecial 125, 3) := by decide +kernel
theorem dL_law_15 : decode cL_law 15 = .ok (.astore_n 2, 1) := by decide +kernel
theorem dL_law_16 : decode cL_law 16 = .ok (.iconst 1, 1) := by decide +kernel
theorem dL_law_17 : decode cL_law 17 = .ok (.newarray .long, 2) := by decide +kernel
theorem dL_law_19 : decode cL_law 19 = .ok (.astore_n 3, 1) := by decide +kernel
theorem dL_law_20 : decode cL_law 20 = .ok (.iconst 1, 1) := by decide +kernel
theorem dL_law_21 : decode cL_law 21 = .ok (.newarray .double, 2) := by decide +kernel
theorem dL_law_23 : decode cL_law 23 = .ok (.astore 4, 2) := by decide +kernel
theorem dL_law_25 : decode cL_law 25 = .ok (.iconst 0, 1) := by decide +kernel
theorem dL_law_26 : decode cL_law 26 = .ok (.istore 5, 2) := by decide +kernel
theorem dL_law_28 : decode cL_law 28 = .ok (.iload 5, 2) := by decide +kernel
theorem dL_law_30 : decode cL_law 30 = .ok (.aload_n 0, 1) := by decide +kernel
theorem dL_law_31 : decode cL_law 31 = .ok (.arraylength, 1) := by decide +kernel
theorem dL_law_32 : decode cL_law 32 = .ok (.bipush 7, 2) := by decide +kernel
theorem dL_law_34 : decode cL_law 34 = .ok (.isub, 1) := by decide +kernel
theorem dL_law_35 : decode cL_law 35 = .ok (.if_icmp .gt 2078, 3) := by decide +kernel
theorem dL_law_38 : decode cL_law 38 = .ok (.aload_n 0, 1) := by decide +kernel
theorem dL_law_39 : decode cL_law 39 = .ok (.iload 5, 2) := by decide +kernel
theorem dL_law_41 : decode cL_law 41 = .ok (.iaload, 1) := by decide +kernel
theorem dL_law_42 : decode cL_law 42 = .ok (.bipush 63, 2) := by decide +kernel
theorem dL_law_44 : decode cL_law 44 = .ok (.iand, 1) := by decide +kernel
theorem dL_law_45 : decode cL_law 45 = .ok (.tableswitch 2062 0 37 #[167, 285, 329, 385, 398, 454, 467, 535, 579, 592, 605, 661, 717, 773, 841, 897, 960, 1028, 1084, 1140, 1215, 1228, 1305, 1360, 1438, 1494, 1507, 1563, 1607, 1651, 1695, 1775, 1819, 1863, 1907, 1951, 2007, 2018], 167) := by decide +kernel
theorem dL_law_212 : decode cL_law 212 = .ok (.aload_n 1, 1) := by decide +kernel
theorem dL_law_213 : decode cL_law 213 = .ok (.aload_n 0, 1) := by decide +kernel
theorem dL_law_214 : decode cL_law 214 = .ok (.iload 5, 2) := by decide +kernel
theorem dL_law_216 : decode cL_law 216 = .ok (.iconst 1, 1) := by decide +kernel
theorem dL_law_217 : decode cL_law 217 = .ok (.iadd, 1) := by decide +kernel
theorem dL_law_218 : decode cL_law 218 = .ok (.iaload, 1) := by decide +kernel
theorem dL_law_219 : decode cL_law 219 = .ok (.aload_n 0, 1) := by decide +kernel
theorem dL_law_220 : decode cL_law 220 = .ok (.iload 5, 2) := by decide +kernel
theorem dL_law_222 : decode cL_law 222 = .ok (.iconst 2, 1) := by decide +kernel
theorem dL_law_223 : decode cL_law 223 = .ok (.iadd, 1) := by decide +kernel
theorem dL_law_224 : decode cL_law 224 = .ok (.iaload, 1) := by decide +kernel
theorem dL_law_225 : decode cL_law 225 = .ok (.aload_n 0, 1) := by decide +kernel
theorem dL_law_226 : decode cL_law 226 = .ok (.iload 5, 2) := by decide +kernel
theorem dL_law_228 : decode cL_law 228 = .ok (.iconst 3, 1) := by decide +kernel
theorem dL_law_229 : decode cL_law 229 = .ok (.iadd, 1) := by decide +kernel
theorem dL_law_230 : decode cL_law 230 = .ok (.iaload, 1) := by decide +kernel
theorem dL_law_231 : decode cL_law 231 = .ok (.aload_n 0, 1) := by decide +kernel
theorem dL_law_232 : decode cL_law 232 = .ok (.iload 5, 2) := by decide +kernel
theorem dL_law_234 : decode cL_law 234 = .ok (.iconst 4, 1) := by decide +kernel
theorem dL_law_235 : decode cL_law 235 = .ok (.iadd, 1) := by decide +kernel
theorem dL_law_236 : decode cL_law 236 = .ok (.iaload, 1) := by decide +kernel
theorem dL_law_237 : decode cL_law 237 = .ok (.aload_n 0, 1) := by decide +kernel
theorem dL_law_238 : decode cL_law 238 = .ok (.iload 5, 2) := by decide +kernel
theorem dL_law_240 : decode cL_law 240 = .ok (.iconst 5, 1) := by decide +kernel
theorem dL_law_241 : decode cL_law 241 = .ok (.iadd, 1) := by decide +kernel
theorem dL_law_242 : decode cL_law 242 = .ok (.iaload, 1) := by decide +kernel
theorem dL_law_243 : decode cL_law 243 = .ok (.aload_n 0, 1) := by decide +kernel
theorem dL_law_244 : decode cL_law 244 = .ok (.iload 5, 2) := by decide +kernel
theorem dL_law_246 : decode cL_law 246 = .ok (.bipush 6, 2) := by decide +kernel
theorem dL_law_248 : decode cL_law 248 = .ok (.iadd, 1) := by decide +kernel
theorem dL_law_249 : decode cL_law 249 = .ok (.iaload, 1) := by decide +kernel
theorem dL_law_250 : decode cL_law 250 = .ok (.aload_n 3, 1) := by decide +kernel
theorem dL_law_251 : decode cL_law 251 = .ok (.invokestatic 126, 3) := by decide +kernel
theorem dL_law_254 : decode cL_law 254 = .ok (.istore 6, 2) := by decide +kernel
theorem dL_law_256 : decode cL_law 256 = .ok (.aload_n 2, 1) := by decide +kernel
theorem dL_law_257 : decode cL_law 257 = .ok (.aload_n 0, 1) := by decide +kernel
theorem dL_law_258 : decode cL_law 258 = .ok (.iload 5, 2) := by decide +kernel
theorem dL_law_260 : decode cL_law 260 = .ok (.iconst 1, 1) := by decide +kernel
theorem dL_law_261 : decode cL_law 261 = .ok (.iadd, 1) := by decide +kernel
theorem dL_law_262 : decode cL_law 262 = .ok (.iaload, 1) := by decide +kernel
theorem dL_law_263 : decode cL_law 263 = .ok (.aload_n 0, 1) := by decide +kernel
theorem dL_law_264 : decode cL_law 264 = .ok (.iload 5, 2) := by decide +kernel
theorem dL_law_266 : decode cL_law 266 = .ok (.iconst 2, 1) := by decide +kernel
theorem dL_law_267 : decode cL_law 267 = .ok (.iadd, 1) := by decide +kernel
theorem dL_law_268 : decode cL_law 268 = .ok (.iaload, 1) := by decide +kernel
theorem dL_law_269 : decode cL_law 269 = .ok (.aload_n 0, 1) := by decide +kernel
theorem dL_law_270 : decode cL_law 270 = .ok (.iload 5, 2) := by decide +kernel
theorem dL_law_272 : decode cL_law 272 = .ok (.iconst 3, 1) := by decide +kernel
theorem dL_law_273 : decode cL_law 273 = .ok (.iadd, 1) := by decide +kernel
theorem dL_law_274 : decode cL_law 274 = .ok (.iaload, 1) := by decide +kernel
theorem dL_law_275 : decode cL_law 275 = .ok (.aload_n 0, 1) := by decide +kernel
theorem dL_law_276 : decode cL_law 276 = .ok (.iload 5, 2) := by decide +kernel
theorem dL_law_278 : decode cL_law 278 = .ok (.iconst 4, 1) := by decide +kernel
theorem dL_law_279 : decode cL_law 279 = .ok (.iadd, 1) := by decide +kernel
theorem dL_law_280 : decode cL_law 280 = .ok (.iaload, 1) := by decide +kernel
theorem dL_law_281 : decode cL_law 281 = .ok (.aload_n 0, 1) := by decide +kernel
theorem dL_law_282 : decode cL_law 282 = .ok (.iload 5, 2) := by decide +kernel
theorem dL_law_284 : decode cL_law 284 = .ok (.iconst 5, 1) := by decide +kernel
theorem dL_law_285 : decode cL_law 285 = .ok (.iadd, 1) := by decide +kernel
theorem dL_law_286 : decode cL_law 286 = .ok (.iaload, 1) := by decide +kernel
theorem dL_law_287 : decode cL_law 287 = .ok (.aload_n 0, 1) := by decide +kernel
theorem dL_law_288 : decode cL_law 288 = .ok (.iload 5, 2) := by decide +kernel
theorem dL_law_290 : decode cL_law 290 = .ok (.bipush 6, 2) := by decide +kernel
theorem dL_law_292 : decode cL_law 292 = .ok (.iadd, 1) := by decide +kernel
theorem dL_law_293 : decode cL_law 293 = .ok (.iaload, 1) := by decide +kernel
theorem dL_law_294 : decode cL_law 294 = .ok (.invokevirtual 131, 3) := by decide +kernel
theorem dL_law_297 : decode cL_law 297 = .ok (.istore 7, 2) := by decide +kernel
theorem dL_law_299 : decode cL_law 299 = .ok (.aload_n 2, 1) := by decide +kernel
theorem dL_law_300 : decode cL_law 300 = .ok (.invokevirtual 132, 3) := by decide +kernel
theorem dL_law_303 : decode cL_law 303 = .ok (.iload 6, 2) := by decide +kernel
theorem dL_law_305 : decode cL_law 305 = .ok (.if_icmp .eq 5, 3) := by decide +kernel
theorem dL_law_308 : decode cL_law 308 = .ok (.iconst 0, 1) := by decide +kernel
theorem dL_law_309 : decode cL_law 309 = .ok (.ireturn, 1) := by decide +kernel
theorem dL_law_310 : decode cL_law 310 = .ok (.iload 6, 2) := by decide +kernel
theorem dL_law_312 : decode cL_law 312 = .ok (.ifCond .ne 15, 3) := by decide +kernel
theorem dL_law_315 : decode cL_law 315 = .ok (.aload_n 3, 1) := by decide +kernel
theorem dL_law_316 : decode cL_law 316 = .ok (.iconst 0, 1) := by decide +kernel
theorem dL_law_317 : decode cL_law 317 = .ok (.laload, 1) := by decide +kernel
theorem dL_law_318 : decode cL_law 318 = .ok (.iload 7, 2) := by decide +kernel
theorem dL_law_320 : decode cL_law 320 = .ok (.i2l, 1) := by decide +kernel
theorem dL_law_321 : decode cL_law 321 = .ok (.lcmp, 1) := by decide +kernel
theorem dL_law_322 : decode cL_law 322 = .ok (.ifCond .eq 5, 3) := by decide +kernel
theorem dL_law_325 : decode cL_law 325 = .ok (.iconst 0, 1) := by decide +kernel
theorem dL_law_326 : decode cL_law 326 = .ok (.ireturn, 1) := by decide +kernel
theorem dL_law_327 : decode cL_law 327 = .ok (.goto 1780, 3) := by decide +kernel
theorem dL_law_330 : decode cL_law 330 = .ok (.aload_n 1, 1) := by decide +kernel
theorem dL_law_331 : decode cL_law 331 = .ok (.aload_n 3, 1) := by decide +kernel
theorem dL_law_332 : decode cL_law 332 = .ok (.invokestatic 135, 3) := by decide +kernel
theorem dL_law_335 : decode cL_law 335 = .ok (.istore 6, 2) := by decide +kernel
theorem dL_law_337 : decode cL_law 337 = .ok (.aload_n 2, 1) := by decide +kernel
theorem dL_law_338 : decode cL_law 338 = .ok (.invokevirtual 138, 3) := by decide +kernel
theorem dL_law_341 : decode cL_law 341 = .ok (.istore 7, 2) := by decide +kernel
theorem dL_law_343 : decode cL_law 343 = .ok (.aload_n 2, 1) := by decide +kernel
theorem dL_law_344 : decode cL_law 344 = .ok (.invokevirtual 132, 3) := by decide +kernel
theorem dL_law_347 : decode cL_law 347 = .ok (.iload 6, 2) := by decide +kernel
theorem dL_law_349 : decode cL_law 349 = .ok (.if_icmp .eq 5, 3) := by decide +kernel
theorem dL_law_352 : decode cL_law 352 = .ok (.iconst 0, 1) := by decide +kernel
theorem dL_law_353 : decode cL_law 353 = .ok (.ireturn, 1) := by decide +kernel
theorem dL_law_354 : decode cL_law 354 = .ok (.iload 6, 2) := by decide +kernel
theorem dL_law_356 : decode cL_law 356 = .ok (.ifCond .ne 15, 3) := by decide +kernel
theorem dL_law_359 : decode cL_law 359 = .ok (.aload_n 3, 1) := by decide +kernel
theorem dL_law_360 : decode cL_law 360 = .ok (.iconst 0, 1) := by decide +kernel
theorem dL_law_361 : decode cL_law 361 = .ok (.laload, 1) := by decide +kernel
theorem dL_law_362 : decode cL_law 362 = .ok (.iload 7, 2) := by decide +kernel
theorem dL_law_364 : decode cL_law 364 = .ok (.i2l, 1) := by decide +kernel
theorem dL_law_365 : decode cL_law 365 = .ok (.lcmp, 1) := by decide +kernel
theorem dL_law_366 : decode cL_law 366 = .ok (.ifCond .eq 5, 3) := by decide +kernel
theorem dL_law_369 : decode cL_law 369 = .ok (.iconst 0, 1) := by decide +kernel
theorem dL_law_370 : decode cL_law 370 = .ok (.ireturn, 1) := by decide +kernel
theorem dL_law_371 : decode cL_law 371 = .ok (.goto 1736, 3) := by decide +kernel
theorem dL_law_374 : decode cL_law 374 = .ok (.aload_n 1, 1) := by decide +kernel
theorem dL_law_375 : decode cL_law 375 = .ok (.aload_n 0, 1) := by decide +kernel
theorem dL_law_376 : decode cL_law 376 = .ok (.iload 5, 2) := by decide +kernel
theorem dL_law_378 : decode cL_law 378 = .ok (.iconst 1, 1) := by decide +kernel
theorem dL_law_379 : decode cL_law 379 = .ok (.iadd, 1) := by decide +kernel
theorem dL_law_380 : decode cL_law 380 = .ok (.iaload, 1) := by decide +kernel
theorem dL_law_381 : decode cL_law 381 = .ok (.aload_n 3, 1) := by decide +kernel
theorem dL_law_382 : decode cL_law 382 = .ok (.invokestatic 139, 3) := by decide +kernel
theorem dL_law_385 : decode cL_law 385 = .ok (.istore 6, 2) := by decide +kernel
theorem dL_law_387 : decode cL_law 387 = .ok (.aload_n 2, 1) := by decide +kernel
theorem dL_law_388 : decode cL_law 388 = .ok (.aload_n 0, 1) := by decide +kernel
theorem dL_law_389 : decode cL_law 389 = .ok (.iload 5, 2) := by decide +kernel
theorem dL_law_391 : decode cL_law 391 = .ok (.iconst 1, 1) := by decide +kernel
theorem dL_law_392 : decode cL_law 392 = .ok (.iadd, 1) := by decide +kernel
theorem dL_law_393 : decode cL_law 393 = .ok (.iaload, 1) := by decide +kernel
theorem dL_law_394 : decode cL_law 394 = .ok (.invokevirtual 142, 3) := by decide +kernel
theorem dL_law_397 : decode cL_law 397 = .ok (.istore 7, 2) := by decide +kernel
theorem dL_law_399 : decode cL_law 399 = .ok (.aload_n 2, 1) := by decide +kernel
theorem dL_law_400 : decode cL_law 400 = .ok (.invokevirtual 132, 3) := by decide +kernel
theorem dL_law_403 : decode cL_law 403 = .ok (.iload 6, 2) := by decide +kernel
theorem dL_law_405 : decode cL_law 405 = .ok (.if_icmp .eq 5, 3) := by decide +kernel
theorem dL_law_408 : decode cL_law 408 = .ok (.iconst 0, 1) := by decide +kernel
theorem dL_law_409 : decode cL_law 409 = .ok (.ireturn, 1) := by decide +kernel
theorem dL_law_410 : decode cL_law 410 = .ok (.iload 6, 2) := by decide +kernel
theorem dL_law_412 : decode cL_law 412 = .ok (.ifCond .ne 15, 3) := by decide +kernel
theorem dL_law_415 : decode cL_law 415 = .ok (.aload_n 3, 1) := by decide +kernel
theorem dL_law_416 : decode cL_law 416 = .ok (.iconst 0, 1) := by decide +kernel
theorem dL_law_417 : decode cL_law 417 = .ok (.laload, 1) := by decide +kernel
theorem dL_law_418 : decode cL_law 418 = .ok (.iload 7, 2) := by decide +kernel
theorem dL_law_420 : decode cL_law 420 = .ok (.i2l, 1) := by decide +kernel
theorem dL_law_421 : decode cL_law 421 = .ok (.lcmp, 1) := by decide +kernel
theorem dL_law_422 : decode cL_law 422 = .ok (.ifCond .eq 5, 3) := by decide +kernel
theorem dL_law_425 : decode cL_law 425 = .ok (.iconst 0, 1) := by decide +kernel
theorem dL_law_426 : decode cL_law 426 = .ok (.ireturn, 1) := by decide +kernel
theorem dL_law_427 : decode cL_law 427 = .ok (.goto 1680, 3) := by decide +kernel
theorem dL_law_430 : decode cL_law 430 = .ok (.aload_n 1, 1) := by decide +kernel
theorem dL_law_431 : decode cL_law 431 = .ok (.invokevirtual 143, 3) := by decide +kernel
theorem dL_law_434 : decode cL_law 434 = .ok (.aload_n 2, 1) := by decide +kernel
theorem dL_law_435 : decode cL_law 435 = .ok (.invokevirtual 146, 3) := by decide +kernel
theorem dL_law_438 : decode cL_law 438 = .ok (.if_icmp .eq 1669, 3) := by decide +kernel
theorem dL_law_441 : decode cL_law 441 = .ok (.iconst 0, 1) := by decide +kernel
theorem dL_law_442 : decode cL_law 442 = .ok (.ireturn, 1) := by decide +kernel
theorem dL_law_443 : decode cL_law 443 = .ok (.aload_n 1, 1) := by decide +kernel
theorem dL_law_444 : decode cL_law 444 = .ok (.aload_n 0, 1) := by decide +kernel
theorem dL_law_445 : decode cL_law 445 = .ok (.iload 5, 2) := by decide +kernel
theorem dL_law_447 : decode cL_law 447 = .ok (.iconst 1, 1) := by decide +kernel
theorem dL_law_448 : decode cL_law 448 = .ok (.iadd, 1) := by decide +kernel
theorem dL_law_449 : decode cL_law 449 = .ok (.iaload, 1) := by decide +kernel
theorem dL_law_450 : decode cL_law 450 = .ok (.aload_n 3, 1) := by decide +kernel
theorem dL_law_451 : decode cL_law 451 = .ok (.invokestatic 147, 3) := by decide +kernel
theorem dL_law_454 : decode cL_law 454 = .ok (.istore 6, 2) := by decide +kernel
theorem dL_law_456 : decode cL_law 456 = .ok (.aload_n 2, 1) := by decide +kernel
theorem dL_law_457 : decode cL_law 457 = .ok (.aload_n 0, 1) := by decide +kernel
theorem dL_law_458 : decode cL_law 458 = .ok (.iload 5, 2) := by decide +kernel
theorem dL_law_460 : decode cL_law 460 = .ok (.iconst 1, 1) := by decide +kernel
theorem dL_law_461 : decode cL_law 461 = .ok (.iadd, 1) := by decide +kernel
theorem dL_law_462 : decode cL_law 462 = .ok (.iaload, 1) := by decide +kernel
theorem dL_law_463 : decode cL_law 463 = .ok (.invokevirtual 149, 3) := by decide +kernel
theorem dL_law_466 : decode cL_law 466 = .ok (.istore 7, 2) := by decide +kernel
theorem dL_law_468 : decode cL_law 468 = .ok (.aload_n 2, 1) := by decide +kernel
theorem dL_law_469 : decode cL_law 469 = .ok (.invokevirtual 132, 3) := by decide +kernel
theorem dL_law_472 : decode cL_law 472 = .ok (.iload 6, 2) := by decide +kernel
theorem dL_law_474 : decode cL_law 474 = .ok (.if_icmp .eq 5, 3) := by decide +kernel
theorem dL_law_477 : decode cL_law 477 = .ok (.iconst 0, 1) := by decide +kernel
theorem dL_law_478 : decode cL_law 478 = .ok (.ireturn, 1) := by decide +kernel
theorem dL_law_479 : decode cL_law 479 = .ok (.iload 6, 2) := by decide +kernel
theorem dL_law_481 : decode cL_law 481 = .ok (.ifCond .ne 15, 3) := by decide +kernel
theorem dL_law_484 : decode cL_law 484 = .ok (.aload_n 3, 1) := by decide +kernel
theorem dL_law_485 : decode cL_law 485 = .ok (.iconst 0, 1) := by decide +kernel
theorem dL_law_486 : decode cL_law 486 = .ok (.laload, 1) := by decide +kernel
theorem dL_law_487 : decode cL_law 487 = .ok (.iload 7, 2) := by decide +kernel
theorem dL_law_489 : decode cL_law 489 = .ok (.i2l, 1) := by decide +kernel
theorem dL_law_490 : decode cL_law 490 = .ok (.lcmp, 1) := by decide +kernel
theorem dL_law_491 : decode cL_law 491 = .ok (.ifCond .eq 5, 3) := by decide +kernel
theorem dL_law_494 : decode cL_law 494 = .ok (.iconst 0, 1) := by decide +kernel
theorem dL_law_495 : decode cL_law 495 = .ok (.ireturn, 1) := by decide +kernel
theorem dL_law_496 : decode cL_law 496 = .ok (.goto 1611, 3) := by decide +kernel
theorem dL_law_499 : decode cL_law 499 = .ok (.aload_n 1, 1) := by decide +kernel
theorem dL_law_500 : decode cL_law 500 = .ok (.invokevirtual 150, 3) := by decide +kernel
theorem dL_law_503 : decode cL_law 503 = .ok (.aload_n 2, 1) := by decide +kernel
theorem dL_law_504 : decode cL_law 504 = .ok (.invokevirtual 153, 3) := by decide +kernel
theorem dL_law_507 : decode cL_law 507 = .ok (.if_icmp .eq 1600, 3) := by decide +kernel
theorem dL_law_510 : decode cL_law 510 = .ok (.iconst 0, 1) := by decide +kernel
theorem dL_law_511 : decode cL_law 511 = .ok (.ireturn, 1) := by decide +kernel
theorem dL_law_512 : decode cL_law 512 = .ok (.aload_n 1, 1) := by decide +kernel
theorem dL_law_513 : decode cL_law 513 = .ok (.aload_n 0, 1) := by decide +kernel
theorem dL_law_514 : decode cL_law 514 = .ok (.iload 5, 2) := by decide +kernel
theorem dL_law_516 : decode cL_law 516 = .ok (.iconst 1, 1) := by decide +kernel
theorem dL_law_517 : decode cL_law 517 = .ok (.iadd, 1) := by decide +kernel
theorem dL_law_518 : decode cL_law 518 = .ok (.iaload, 1) := by decide +kernel
theorem dL_law_519 : decode cL_law 519 = .ok (.aload_n 0, 1) := by decide +kernel
theorem dL_law_520 : decode cL_law 520 = .ok (.iload 5, 2) := by decide +kernel
theorem dL_law_522 : decode cL_law 522 = .ok (.iconst 2, 1) := by decide +kernel
theorem dL_law_523 : decode cL_law 523 = .ok (.iadd, 1) := by decide +kernel
theorem dL_law_524 : decode cL_law 524 = .ok (.iaload, 1) := by decide +kernel
theorem dL_law_525 : decode cL_law 525 = .ok (.aload_n 3, 1) := by decide +kernel
theorem dL_law_526 : decode cL_law 526 = .ok (.invokestatic 154, 3) := by decide +kernel
theorem dL_law_529 : decode cL_law 529 = .ok (.istore 6, 2) := by decide +kernel
theorem dL_law_531 : decode cL_law 531 = .ok (.aload_n 2, 1) := by decide +kernel
theorem dL_law_532 : decode cL_law 532 = .ok (.aload_n 0, 1) := by decide +kernel
theorem dL_law_533 : decode cL_law 533 = .ok (.iload 5, 2) := by decide +kernel
theorem dL_law_535 : decode cL_law 535 = .ok (.iconst 1, 1) := by decide +kernel
theorem dL_law_536 : decode cL_law 536 = .ok (.iadd, 1) := by decide +kernel
theorem dL_law_537 : decode cL_law 537 = .ok (.iaload, 1) := by decide +kernel
theorem dL_law_538 : decode cL_law 538 = .ok (.aload_n 0, 1) := by decide +kernel
theorem dL_law_539 : decode cL_law 539 = .ok (.iload 5, 2) := by decide +kernel
theorem dL_law_541 : decode cL_law 541 = .ok (.iconst 2, 1) := by decide +kernel
theorem dL_law_542 : decode cL_law 542 = .ok (.iadd, 1) := by decide +kernel
theorem dL_law_543 : decode cL_law 543 = .ok (.iaload, 1) := by decide +kernel
theorem dL_law_544 : decode cL_law 544 = .ok (.invokevirtual 157, 3) := by decide +kernel
theorem dL_law_547 : decode cL_law 547 = .ok (.istore 7, 2) := by decide +kernel
theorem dL_law_549 : decode cL_law 549 = .ok (.aload_n 2, 1) := by decide +kernel
theorem dL_law_550 : decode cL_law 550 = .ok (.invokevirtual 132, 3) := by decide +kernel
theorem dL_law_553 : decode cL_law 553 = .ok (.iload 6, 2) := by decide +kernel
theorem dL_law_555 : decode cL_law 555 = .ok (.if_icmp .eq 5, 3) := by decide +kernel
theorem dL_law_558 : decode cL_law 558 = .ok (.iconst 0, 1) := by decide +kernel
theorem dL_law_559 : decode cL_law 559 = .ok (.ireturn, 1) := by decide +kernel
theorem dL_law_560 : decode cL_law 560 = .ok (.iload 6, 2) := by decide +kernel
theorem dL_law_562 : decode cL_law 562 = .ok (.ifCond .ne 15, 3) := by decide +kernel
theorem dL_law_565 : decode cL_law 565 = .ok (.aload_n 3, 1) := by decide +kernel
theorem dL_law_566 : decode cL_law 566 = .ok (.iconst 0, 1) := by decide +kernel
theorem dL_law_567 : decode cL_law 567 = .ok (.laload, 1) := by decide +kernel
theorem dL_law_568 : decode cL_law 568 = .ok (.iload 7, 2) := by decide +kernel
theorem dL_law_570 : decode cL_law 570 = .ok (.i2l, 1) := by decide +kernel
theorem dL_law_571 : decode cL_law 571 = .ok (.lcmp, 1) := by decide +kernel
theorem dL_law_572 : decode cL_law 572 = .ok (.ifCond .eq 5, 3) := by decide +kernel
theorem dL_law_575 : decode cL_law 575 = .ok (.iconst 0, 1) := by decide +kernel
theorem dL_law_576 : decode cL_law 576 = .ok (.ireturn, 1) := by decide +kernel
theorem dL_law_577 : decode cL_law 577 = .ok (.goto 1530, 3) := by decide +kernel
theorem dL_law_580 : decode cL_law 580 = .ok (.aload_n 1, 1) := by decide +kernel
theorem dL_law_581 : decode cL_law 581 = .ok (.aload_n 3, 1) := by decide +kernel
theorem dL_law_582 : decode cL_law 582 = .ok (.invokestatic 158, 3) := by decide +kernel
theorem dL_law_585 : decode cL_law 585 = .ok (.istore 6, 2) := by decide +kernel
theorem dL_law_587 : decode cL_law 587 = .ok (.aload_n 2, 1) := by decide +kernel
theorem dL_law_588 : decode cL_law 588 = .ok (.invokevirtual 160, 3) := by decide +kernel
theorem dL_law_591 : decode cL_law 591 = .ok (.istore 7, 2) := by decide +kernel
theorem dL_law_593 : decode cL_law 593 = .ok (.aload_n 2, 1) := by decide +kernel
theorem dL_law_594 : decode cL_law 594 = .ok (.invokevirtual 132, 3) := by decide +kernel
theorem dL_law_597 : decode cL_law 597 = .ok (.iload 6, 2) := by decide +kernel
theorem dL_law_599 : decode cL_law 599 = .ok (.if_icmp .eq 5, 3) := by decide +kernel
theorem dL_law_602 : decode cL_law 602 = .ok (.iconst 0, 1) := by decide +kernel
theorem dL_law_603 : decode cL_law 603 = .ok (.ireturn, 1) := by decide +kernel
theorem dL_law_604 : decode cL_law 604 = .ok (.iload 6, 2) := by decide +kernel
theorem dL_law_606 : decode cL_law 606 = .ok (.ifCond .ne 15, 3) := by decide +kernel
theorem dL_law_609 : decode cL_law 609 = .ok (.aload_n 3, 1) := by decide +kernel
theorem dL_law_610 : decode cL_law 610 = .ok (.iconst 0, 1) := by decide +kernel
theorem dL_law_611 : decode cL_law 611 = .ok (.laload, 1) := by decide +kernel
theorem dL_law_612 : decode cL_law 612 = .ok (.iload 7, 2) := by decide +kernel
theorem dL_law_614 : decode cL_law 614 = .ok (.i2l, 1) := by decide +kernel
theorem dL_law_615 : decode cL_law 615 = .ok (.lcmp, 1) := by decide +kernel
theorem dL_law_616 : decode cL_law 616 = .ok (.ifCond .eq 5, 3) := by decide +kernel
theorem dL_law_619 : decode cL_law 619 = .ok (.iconst 0, 1) := by decide +kernel
theorem dL_law_620 : decode cL_law 620 = .ok (.ireturn, 1) := by decide +kernel
theorem dL_law_621 : decode cL_law 621 = .ok (.goto 1486, 3) := by decide +kernel
theorem dL_law_624 : decode cL_law 624 = .ok (.aload_n 1, 1) := by decide +kernel
theorem dL_law_625 : decode cL_law 625 = .ok (.invokevirtual 161, 3) := by decide +kernel
theorem dL_law_628 : decode cL_law 628 = .ok (.aload_n 2, 1) := by decide +kernel
theorem dL_law_629 : decode cL_law 629 = .ok (.invokevirtual 164, 3) := by decide +kernel
theorem dL_law_632 : decode cL_law 632 = .ok (.if_icmp .eq 1475, 3) := by decide +kernel
theorem dL_law_635 : decode cL_law 635 = .ok (.iconst 0, 1) := by decide +kernel
theorem dL_law_636 : decode cL_law 636 = .ok (.ireturn, 1) := by decide +kernel
theorem dL_law_637 : decode cL_law 637 = .ok (.aload_n 1, 1) := by decide +kernel
theorem dL_law_638 : decode cL_law 638 = .ok (.invokevirtual 165, 3) := by decide +kernel
theorem dL_law_641 : decode cL_law 641 = .ok (.aload_n 2, 1) := by decide +kernel
theorem dL_law_642 : decode cL_law 642 = .ok (.invokevirtual 168, 3) := by decide +kernel
theorem dL_law_645 : decode cL_law 645 = .ok (.if_icmp .eq 1462, 3) := by decide +kernel
theorem dL_law_648 : decode cL_law 648 = .ok (.iconst 0, 1) := by decide +kernel
theorem dL_law_649 : decode cL_law 649 = .ok (.ireturn, 1) := by decide +kernel
theorem dL_law_650 : decode cL_law 650 = .ok (.aload_n 1, 1) := by decide +kernel
theorem dL_law_651 : decode cL_law 651 = .ok (.aload_n 0, 1) := by decide +kernel
theorem dL_law_652 : decode cL_law 652 = .ok (.iload 5, 2) := by decide +kernel
theorem dL_law_654 : decode cL_law 654 = .ok (.iconst 1, 1) := by decide +kernel
theorem dL_law_655 : decode cL_law 655 = .ok (.iadd, 1) := by decide +kernel
theorem dL_law_656 : decode cL_law 656 = .ok (.iaload, 1) := by decide +kernel
theorem dL_law_657 : decode cL_law 657 = .ok (.aload_n 3, 1) := by decide +kernel
theorem dL_law_658 : decode cL_law 658 = .ok (.invokestatic 169, 3) := by decide +kernel
theorem dL_law_661 : decode cL_law 661 = .ok (.istore 6, 2) := by decide +kernel
theorem dL_law_663 : decode cL_law 663 = .ok (.aload_n 2, 1) := by decide +kernel
theorem dL_law_664 : decode cL_law 664 = .ok (.aload_n 0, 1) := by decide +kernel
theorem dL_law_665 : decode cL_law 665 = .ok (.iload 5, 2) := by decide +kernel
theorem dL_law_667 : decode cL_law 667 = .ok (.iconst 1, 1) := by decide +kernel
theorem dL_law_668 : decode cL_law 668 = .ok (.iadd, 1) := by decide +kernel
theorem dL_law_669 : decode cL_law 669 = .ok (.iaload, 1) := by decide +kernel
theorem dL_law_670 : decode cL_law 670 = .ok (.invokevirtual 171, 3) := by decide +kernel
theorem dL_law_673 : decode cL_law 673 = .ok (.istore 7, 2) := by decide +kernel
theorem dL_law_675 : decode cL_law 675 = .ok (.aload_n 2, 1) := by decide +kernel
theorem dL_law_676 : decode cL_law 676 = .ok (.invokevirtual 132, 3) := by decide +kernel
theorem dL_law_679 : decode cL_law 679 = .ok (.iload 6, 2) := by decide +kernel
theorem dL_law_681 : decode cL_law 681 = .ok (.if_icmp .eq 5, 3) := by decide +kernel
theorem dL_law_684 : decode cL_law 684 = .ok (.iconst 0, 1) := by decide +kernel
theorem dL_law_685 : decode cL_law 685 = .ok (.ireturn, 1) := by decide +kernel
theorem dL_law_686 : decode cL_law 686 = .ok (.iload 6, 2) := by decide +kernel
theorem dL_law_688 : decode cL_law 688 = .ok (.ifCond .ne 15, 3) := by decide +kernel
theorem dL_law_691 : decode cL_law 691 = .ok (.aload_n 3, 1) := by decide +kernel
theorem dL_law_692 : decode cL_law 692 = .ok (.iconst 0, 1) := by decide +kernel
theorem dL_law_693 : decode cL_law 693 = .ok (.laload, 1) := by decide +kernel
theorem dL_law_694 : decode cL_law 694 = .ok (.iload 7, 2) := by decide +kernel
theorem dL_law_696 : decode cL_law 696 = .ok (.i2l, 1) := by decide +kernel
theorem dL_law_697 : decode cL_law 697 = .ok (.lcmp, 1) := by decide +kernel
theorem dL_law_698 : decode cL_law 698 = .ok (.ifCond .eq 5, 3) := by decide +kernel
theorem dL_law_701 : decode cL_law 701 = .ok (.iconst 0, 1) := by decide +kernel
theorem dL_law_702 : decode cL_law 702 = .ok (.ireturn, 1) := by decide +kernel
theorem dL_law_703 : decode cL_law 703 = .ok (.goto 1404, 3) := by decide +kernel
theorem dL_law_706 : decode cL_law 706 = .ok (.aload_n 1, 1) := by decide +kernel
theorem dL_law_707 : decode cL_law 707 = .ok (.aload_n 0, 1) := by decide +kernel
theorem dL_law_708 : decode cL_law 708 = .ok (.iload 5, 2) := by decide +kernel
theorem dL_law_710 : decode cL_law 710 = .ok (.iconst 1, 1) := by decide +kernel
theorem dL_law_711 : decode cL_law 711 = .ok (.iadd, 1) := by decide +kernel
theorem dL_law_712 : decode cL_law 712 = .ok (.iaload, 1) := by decide +kernel
theorem dL_law_713 : decode cL_law 713 = .ok (.aload_n 3, 1) := by decide +kernel
theorem dL_law_714 : decode cL_law 714 = .ok (.invokestatic 172, 3) := by decide +kernel
theorem dL_law_717 : decode cL_law 717 = .ok (.istore 6, 2) := by decide +kernel
theorem dL_law_719 : decode cL_law 719 = .ok (.aload_n 2, 1) := by decide +kernel
theorem dL_law_720 : decode cL_law 720 = .ok (.aload_n 0, 1) := by decide +kernel
theorem dL_law_721 : decode cL_law 721 = .ok (.iload 5, 2) := by decide +kernel
theorem dL_law_723 : decode cL_law 723 = .ok (.iconst 1, 1) := by decide +kernel
theorem dL_law_724 : decode cL_law 724 = .ok (.iadd, 1) := by decide +kernel
theorem dL_law_725 : decode cL_law 725 = .ok (.iaload, 1) := by decide +kernel
theorem dL_law_726 : decode cL_law 726 = .ok (.invokevirtual 174, 3) := by decide +kernel
theorem dL_law_729 : decode cL_law 729 = .ok (.istore 7, 2) := by decide +kernel
theorem dL_law_731 : decode cL_law 731 = .ok (.aload_n 2, 1) := by decide +kernel
theorem dL_law_732 : decode cL_law 732 = .ok (.invokevirtual 132, 3) := by decide +kernel
theorem dL_law_735 : decode cL_law 735 = .ok (.iload 6, 2) := by decide +kernel
theorem dL_law_737 : decode cL_law 737 = .ok (.if_icmp .eq 5, 3) := by decide +kernel
theorem dL_law_740 : decode cL_law 740 = .ok (.iconst 0, 1) := by decide +kernel
theorem dL_law_741 : decode cL_law 741 = .ok (.ireturn, 1) := by decide +kernel
theorem dL_law_742 : decode cL_law 742 = .ok (.iload 6, 2) := by decide +kernel
theorem dL_law_744 : decode cL_law 744 = .ok (.ifCond .ne 15, 3) := by decide +kernel
theorem dL_law_747 : decode cL_law 747 = .ok (.aload_n 3, 1) := by decide +kernel
theorem dL_law_748 : decode cL_law 748 = .ok (.iconst 0, 1) := by decide +kernel
theorem dL_law_749 : decode cL_law 749 = .ok (.laload, 1) := by decide +kernel
theorem dL_law_750 : decode cL_law 750 = .ok (.iload 7, 2) := by decide +kernel
theorem dL_law_752 : decode cL_law 752 = .ok (.i2l, 1) := by decide +kernel
theorem dL_law_753 : decode cL_law 753 = .ok (.lcmp, 1) := by decide +kernel
theorem dL_law_754 : decode cL_law 754 = .ok (.ifCond .eq 5, 3) := by decide +kernel
theorem dL_law_757 : decode cL_law 757 = .ok (.iconst 0, 1) := by decide +kernel
theorem dL_law_758 : decode cL_law 758 = .ok (.ireturn, 1) := by decide +kernel
theorem dL_law_759 : decode cL_law 759 = .ok (.goto 1348, 3) := by decide +kernel
theorem dL_law_762 : decode cL_law 762 = .ok (.aload_n 1, 1) := by decide +kernel
theorem dL_law_763 : decode cL_law 763 = .ok (.aload_n 0, 1) := by decide +kernel
theorem dL_law_764 : decode cL_law 764 = .ok (.iload 5, 2) := by decide +kernel
theorem dL_law_766 : decode cL_law 766 = .ok (.iconst 1, 1) := by decide +kernel
theorem dL_law_767 : decode cL_law 767 = .ok (.iadd, 1) := by decide +kernel
theorem dL_law_768 : decode cL_law 768 = .ok (.iaload, 1) := by decide +kernel
theorem dL_law_769 : decode cL_law 769 = .ok (.aload_n 3, 1) := by decide +kernel
theorem dL_law_770 : decode cL_law 770 = .ok (.invokestatic 175, 3) := by decide +kernel
theorem dL_law_773 : decode cL_law 773 = .ok (.istore 6, 2) := by decide +kernel
theorem dL_law_775 : decode cL_law 775 = .ok (.aload_n 2, 1) := by decide +kernel
theorem dL_law_776 : decode cL_law 776 = .ok (.aload_n 0, 1) := by decide +kernel
theorem dL_law_777 : decode cL_law 777 = .ok (.iload 5, 2) := by decide +kernel
theorem dL_law_779 : decode cL_law 779 = .ok (.iconst 1, 1) := by decide +kernel
theorem dL_law_780 : decode cL_law 780 = .ok (.iadd, 1) := by decide +kernel
theorem dL_law_781 : decode cL_law 781 = .ok (.iaload, 1) := by decide +kernel
theorem dL_law_782 : decode cL_law 782 = .ok (.invokevirtual 177, 3) := by decide +kernel
theorem dL_law_785 : decode cL_law 785 = .ok (.istore 7, 2) := by decide +kernel
theorem dL_law_787 : decode cL_law 787 = .ok (.aload_n 2, 1) := by decide +kernel
theorem dL_law_788 : decode cL_law 788 = .ok (.invokevirtual 132, 3) := by decide +kernel
theorem dL_law_791 : decode cL_law 791 = .ok (.iload 6, 2) := by decide +kernel
theorem dL_law_793 : decode cL_law 793 = .ok (.if_icmp .eq 5, 3) := by decide +kernel
theorem dL_law_796 : decode cL_law 796 = .ok (.iconst 0, 1) := by decide +kernel
theorem dL_law_797 : decode cL_law 797 = .ok (.ireturn, 1) := by decide +kernel
theorem dL_law_798 : decode cL_law 798 = .ok (.iload 6, 2) := by decide +kernel

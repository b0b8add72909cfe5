theorem dL_law_28 : decode bL_law 28 = .ok (.iload 5, 2) := by decide +kernel
theorem dL_law_30 : decode bL_law 30 = .ok (.aload_n 0, 1) := by decide +kernel
theorem dL_law_31 : decode bL_law 31 = .ok (.arraylength, 1) := by decide +kernel
theorem dL_law_32 : decode bL_law 32 = .ok (.bipush 6, 2) := by decide +kernel
theorem dL_law_34 : decode bL_law 34 = .ok (.isub, 1) := by decide +kernel
theorem dL_law_35 : decode bL_law 35 = .ok (.if_icmp .gt 2029, 3) := by decide +kernel
theorem dL_law_2064 : decode bL_law 2064 = .ok (.iconst 1, 1) := by decide +kernel
theorem dL_law_2065 : decode bL_law 2065 = .ok (.ireturn, 1) := by decide +kernel
theorem dL_law_38 : decode bL_law 38 = .ok (.aload_n 0, 1) := by decide +kernel
theorem dL_law_39 : decode bL_law 39 = .ok (.iload 5, 2) := by decide +kernel
theorem dL_law_41 : decode bL_law 41 = .ok (.iaload, 1) := by decide +kernel
theorem dL_law_42 : decode bL_law 42 = .ok (.bipush 63, 2) := by decide +kernel
theorem dL_law_44 : decode bL_law 44 = .ok (.iand, 1) := by decide +kernel
theorem dL_law_45 : decode bL_law 45 = .ok (.tableswitch 2013 0 38 #[171, 275, 288, 301, 314, 327, 383, 451, 519, 587, 643, 711, 767, 835, 903, 971, 1027, 1083, 1139, 1183, 1227, 1271, 1337, 1402, 1458, 1514, 1570, 1626, 1682, 1695, 1708, 1721, 1734, 1790, 1803, 1816, 1857, 1901, 1957], 171) := by decide +kernel
theorem dL_law_216 : decode bL_law 216 = .ok (.aload_n 1, 1) := by decide +kernel
theorem dL_law_217 : decode bL_law 217 = .ok (.aload_n 0, 1) := by decide +kernel
theorem dL_law_218 : decode bL_law 218 = .ok (.iload 5, 2) := by decide +kernel
theorem dL_law_220 : decode bL_law 220 = .ok (.iconst 1, 1) := by decide +kernel
theorem dL_law_221 : decode bL_law 221 = .ok (.iadd, 1) := by decide +kernel
theorem dL_law_222 : decode bL_law 222 = .ok (.iaload, 1) := by decide +kernel
theorem dL_law_223 : decode bL_law 223 = .ok (.aload_n 0, 1) := by decide +kernel
theorem dL_law_224 : decode bL_law 224 = .ok (.iload 5, 2) := by decide +kernel
theorem dL_law_226 : decode bL_law 226 = .ok (.iconst 2, 1) := by decide +kernel
theorem dL_law_227 : decode bL_law 227 = .ok (.iadd, 1) := by decide +kernel
theorem dL_law_228 : decode bL_law 228 = .ok (.iaload, 1) := by decide +kernel
theorem dL_law_229 : decode bL_law 229 = .ok (.aload_n 0, 1) := by decide +kernel
theorem dL_law_230 : decode bL_law 230 = .ok (.iload 5, 2) := by decide +kernel
theorem dL_law_232 : decode bL_law 232 = .ok (.iconst 3, 1) := by decide +kernel
theorem dL_law_233 : decode bL_law 233 = .ok (.iadd, 1) := by decide +kernel
theorem dL_law_234 : decode bL_law 234 = .ok (.iaload, 1) := by decide +kernel
theorem dL_law_235 : decode bL_law 235 = .ok (.aload_n 0, 1) := by decide +kernel
theorem dL_law_236 : decode bL_law 236 = .ok (.iload 5, 2) := by decide +kernel
theorem dL_law_238 : decode bL_law 238 = .ok (.iconst 4, 1) := by decide +kernel
theorem dL_law_239 : decode bL_law 239 = .ok (.iadd, 1) := by decide +kernel
theorem dL_law_240 : decode bL_law 240 = .ok (.iaload, 1) := by decide +kernel
theorem dL_law_241 : decode bL_law 241 = .ok (.aload_n 0, 1) := by decide +kernel
theorem dL_law_242 : decode bL_law 242 = .ok (.iload 5, 2) := by decide +kernel
theorem dL_law_244 : decode bL_law 244 = .ok (.iconst 5, 1) := by decide +kernel
theorem dL_law_245 : decode bL_law 245 = .ok (.iadd, 1) := by decide +kernel
theorem dL_law_246 : decode bL_law 246 = .ok (.iaload, 1) := by decide +kernel
theorem dL_law_247 : decode bL_law 247 = .ok (.aload_n 3, 1) := by decide +kernel
theorem dL_law_248 : decode bL_law 248 = .ok (.invokestatic 111, 3) := by decide +kernel
theorem dL_law_251 : decode bL_law 251 = .ok (.istore 6, 2) := by decide +kernel
theorem dL_law_253 : decode bL_law 253 = .ok (.aload_n 2, 1) := by decide +kernel
theorem dL_law_254 : decode bL_law 254 = .ok (.aload_n 0, 1) := by decide +kernel
theorem dL_law_255 : decode bL_law 255 = .ok (.iload 5, 2) := by decide +kernel
theorem dL_law_257 : decode bL_law 257 = .ok (.iconst 1, 1) := by decide +kernel
theorem dL_law_258 : decode bL_law 258 = .ok (.iadd, 1) := by decide +kernel
theorem dL_law_259 : decode bL_law 259 = .ok (.iaload, 1) := by decide +kernel
theorem dL_law_260 : decode bL_law 260 = .ok (.aload_n 0, 1) := by decide +kernel
theorem dL_law_261 : decode bL_law 261 = .ok (.iload 5, 2) := by decide +kernel
theorem dL_law_263 : decode bL_law 263 = .ok (.iconst 2, 1) := by decide +kernel
theorem dL_law_264 : decode bL_law 264 = .ok (.iadd, 1) := by decide +kernel
theorem dL_law_265 : decode bL_law 265 = .ok (.iaload, 1) := by decide +kernel
theorem dL_law_266 : decode bL_law 266 = .ok (.aload_n 0, 1) := by decide +kernel
theorem dL_law_267 : decode bL_law 267 = .ok (.iload 5, 2) := by decide +kernel
theorem dL_law_269 : decode bL_law 269 = .ok (.iconst 3, 1) := by decide +kernel
theorem dL_law_270 : decode bL_law 270 = .ok (.iadd, 1) := by decide +kernel
theorem dL_law_271 : decode bL_law 271 = .ok (.iaload, 1) := by decide +kernel
theorem dL_law_272 : decode bL_law 272 = .ok (.aload_n 0, 1) := by decide +kernel
theorem dL_law_273 : decode bL_law 273 = .ok (.iload 5, 2) := by decide +kernel
theorem dL_law_275 : decode bL_law 275 = .ok (.iconst 4, 1) := by decide +kernel
theorem dL_law_276 : decode bL_law 276 = .ok (.iadd, 1) := by decide +kernel
theorem dL_law_277 : decode bL_law 277 = .ok (.iaload, 1) := by decide +kernel
theorem dL_law_278 : decode bL_law 278 = .ok (.aload_n 0, 1) := by decide +kernel
theorem dL_law_279 : decode bL_law 279 = .ok (.iload 5, 2) := by decide +kernel
theorem dL_law_281 : decode bL_law 281 = .ok (.iconst 5, 1) := by decide +kernel
theorem dL_law_282 : decode bL_law 282 = .ok (.iadd, 1) := by decide +kernel
theorem dL_law_283 : decode bL_law 283 = .ok (.iaload, 1) := by decide +kernel
theorem dL_law_284 : decode bL_law 284 = .ok (.invokevirtual 116, 3) := by decide +kernel
theorem dL_law_287 : decode bL_law 287 = .ok (.istore 7, 2) := by decide +kernel
theorem dL_law_289 : decode bL_law 289 = .ok (.aload_n 2, 1) := by decide +kernel
theorem dL_law_290 : decode bL_law 290 = .ok (.invokevirtual 117, 3) := by decide +kernel
theorem dL_law_293 : decode bL_law 293 = .ok (.iload 6, 2) := by decide +kernel
theorem dL_law_295 : decode bL_law 295 = .ok (.if_icmp .eq 5, 3) := by decide +kernel
theorem dL_law_300 : decode bL_law 300 = .ok (.iload 6, 2) := by decide +kernel
theorem dL_law_302 : decode bL_law 302 = .ok (.ifCond .ne 15, 3) := by decide +kernel
theorem dL_law_317 : decode bL_law 317 = .ok (.goto 1741, 3) := by decide +kernel
theorem dL_law_305 : decode bL_law 305 = .ok (.aload_n 3, 1) := by decide +kernel
theorem dL_law_306 : decode bL_law 306 = .ok (.iconst 0, 1) := by decide +kernel
theorem dL_law_307 : decode bL_law 307 = .ok (.laload, 1) := by decide +kernel
theorem dL_law_308 : decode bL_law 308 = .ok (.iload 7, 2) := by decide +kernel
theorem dL_law_310 : decode bL_law 310 = .ok (.i2l, 1) := by decide +kernel
theorem dL_law_311 : decode bL_law 311 = .ok (.lcmp, 1) := by decide +kernel
theorem dL_law_312 : decode bL_law 312 = .ok (.ifCond .eq 5, 3) := by decide +kernel
theorem dL_law_315 : decode bL_law 315 = .ok (.iconst 0, 1) := by decide +kernel
theorem dL_law_316 : decode bL_law 316 = .ok (.ireturn, 1) := by decide +kernel
theorem dL_law_298 : decode bL_law 298 = .ok (.iconst 0, 1) := by decide +kernel
theorem dL_law_299 : decode bL_law 299 = .ok (.ireturn, 1) := by decide +kernel
theorem dL_law_320 : decode bL_law 320 = .ok (.aload_n 1, 1) := by decide +kernel
theorem dL_law_321 : decode bL_law 321 = .ok (.invokevirtual 120, 3) := by decide +kernel
theorem dL_law_324 : decode bL_law 324 = .ok (.aload_n 2, 1) := by decide +kernel
theorem dL_law_325 : decode bL_law 325 = .ok (.invokevirtual 123, 3) := by decide +kernel
theorem dL_law_328 : decode bL_law 328 = .ok (.if_icmp .eq 1730, 3) := by decide +kernel
theorem dL_law_331 : decode bL_law 331 = .ok (.iconst 0, 1) := by decide +kernel
theorem dL_law_332 : decode bL_law 332 = .ok (.ireturn, 1) := by decide +kernel
theorem dL_law_333 : decode bL_law 333 = .ok (.aload_n 1, 1) := by decide +kernel
theorem dL_law_334 : decode bL_law 334 = .ok (.invokevirtual 124, 3) := by decide +kernel
theorem dL_law_337 : decode bL_law 337 = .ok (.aload_n 2, 1) := by decide +kernel
theorem dL_law_338 : decode bL_law 338 = .ok (.invokevirtual 127, 3) := by decide +kernel
theorem dL_law_341 : decode bL_law 341 = .ok (.if_icmp .eq 1717, 3) := by decide +kernel
theorem dL_law_344 : decode bL_law 344 = .ok (.iconst 0, 1) := by decide +kernel
theorem dL_law_345 : decode bL_law 345 = .ok (.ireturn, 1) := by decide +kernel
theorem dL_law_346 : decode bL_law 346 = .ok (.aload_n 1, 1) := by decide +kernel
theorem dL_law_347 : decode bL_law 347 = .ok (.invokevirtual 128, 3) := by decide +kernel
theorem dL_law_350 : decode bL_law 350 = .ok (.aload_n 2, 1) := by decide +kernel
theorem dL_law_351 : decode bL_law 351 = .ok (.invokevirtual 131, 3) := by decide +kernel
theorem dL_law_354 : decode bL_law 354 = .ok (.if_icmp .eq 1704, 3) := by decide +kernel
theorem dL_law_357 : decode bL_law 357 = .ok (.iconst 0, 1) := by decide +kernel
theorem dL_law_358 : decode bL_law 358 = .ok (.ireturn, 1) := by decide +kernel
theorem dL_law_359 : decode bL_law 359 = .ok (.aload_n 1, 1) := by decide +kernel
theorem dL_law_360 : decode bL_law 360 = .ok (.invokevirtual 132, 3) := by decide +kernel
theorem dL_law_363 : decode bL_law 363 = .ok (.aload_n 2, 1) := by decide +kernel
theorem dL_law_364 : decode bL_law 364 = .ok (.invokevirtual 135, 3) := by decide +kernel
theorem dL_law_367 : decode bL_law 367 = .ok (.if_icmp .eq 1691, 3) := by decide +kernel
theorem dL_law_370 : decode bL_law 370 = .ok (.iconst 0, 1) := by decide +kernel
theorem dL_law_371 : decode bL_law 371 = .ok (.ireturn, 1) := by decide +kernel
theorem dL_law_372 : decode bL_law 372 = .ok (.aload_n 1, 1) := by decide +kernel
theorem dL_law_373 : decode bL_law 373 = .ok (.aload_n 0, 1) := by decide +kernel
theorem dL_law_374 : decode bL_law 374 = .ok (.iload 5, 2) := by decide +kernel
theorem dL_law_376 : decode bL_law 376 = .ok (.iconst 1, 1) := by decide +kernel
theorem dL_law_377 : decode bL_law 377 = .ok (.iadd, 1) := by decide +kernel
theorem dL_law_378 : decode bL_law 378 = .ok (.iaload, 1) := by decide +kernel
theorem dL_law_379 : decode bL_law 379 = .ok (.aload_n 3, 1) := by decide +kernel
theorem dL_law_380 : decode bL_law 380 = .ok (.invokestatic 136, 3) := by decide +kernel
theorem dL_law_383 : decode bL_law 383 = .ok (.istore 6, 2) := by decide +kernel
theorem dL_law_385 : decode bL_law 385 = .ok (.aload_n 2, 1) := by decide +kernel
theorem dL_law_386 : decode bL_law 386 = .ok (.aload_n 0, 1) := by decide +kernel
theorem dL_law_387 : decode bL_law 387 = .ok (.iload 5, 2) := by decide +kernel
theorem dL_law_389 : decode bL_law 389 = .ok (.iconst 1, 1) := by decide +kernel
theorem dL_law_390 : decode bL_law 390 = .ok (.iadd, 1) := by decide +kernel
theorem dL_law_391 : decode bL_law 391 = .ok (.iaload, 1) := by decide +kernel
theorem dL_law_392 : decode bL_law 392 = .ok (.invokevirtual 139, 3) := by decide +kernel
theorem dL_law_395 : decode bL_law 395 = .ok (.istore 7, 2) := by decide +kernel
theorem dL_law_397 : decode bL_law 397 = .ok (.aload_n 2, 1) := by decide +kernel
theorem dL_law_398 : decode bL_law 398 = .ok (.invokevirtual 117, 3) := by decide +kernel
theorem dL_law_401 : decode bL_law 401 = .ok (.iload 6, 2) := by decide +kernel
theorem dL_law_403 : decode bL_law 403 = .ok (.if_icmp .eq 5, 3) := by decide +kernel
theorem dL_law_408 : decode bL_law 408 = .ok (.iload 6, 2) := by decide +kernel
theorem dL_law_410 : decode bL_law 410 = .ok (.ifCond .ne 15, 3) := by decide +kernel
theorem dL_law_425 : decode bL_law 425 = .ok (.goto 1633, 3) := by decide +kernel
theorem dL_law_413 : decode bL_law 413 = .ok (.aload_n 3, 1) := by decide +kernel
theorem dL_law_414 : decode bL_law 414 = .ok (.iconst 0, 1) := by decide +kernel
theorem dL_law_415 : decode bL_law 415 = .ok (.laload, 1) := by decide +kernel
theorem dL_law_416 : decode bL_law 416 = .ok (.iload 7, 2) := by decide +kernel
theorem dL_law_418 : decode bL_law 418 = .ok (.i2l, 1) := by decide +kernel
theorem dL_law_419 : decode bL_law 419 = .ok (.lcmp, 1) := by decide +kernel
theorem dL_law_420 : decode bL_law 420 = .ok (.ifCond .eq 5, 3) := by decide +kernel
theorem dL_law_423 : decode bL_law 423 = .ok (.iconst 0, 1) := by decide +kernel
theorem dL_law_424 : decode bL_law 424 = .ok (.ireturn, 1) := by decide +kernel
theorem dL_law_406 : decode bL_law 406 = .ok (.iconst 0, 1) := by decide +kernel
theorem dL_law_407 : decode bL_law 407 = .ok (.ireturn, 1) := by decide +kernel
theorem dL_law_428 : decode bL_law 428 = .ok (.aload_n 1, 1) := by decide +kernel
theorem dL_law_429 : decode bL_law 429 = .ok (.aload_n 0, 1) := by decide +kernel
theorem dL_law_430 : decode bL_law 430 = .ok (.iload 5, 2) := by decide +kernel
theorem dL_law_432 : decode bL_law 432 = .ok (.iconst 1, 1) := by decide +kernel
theorem dL_law_433 : decode bL_law 433 = .ok (.iadd, 1) := by decide +kernel
theorem dL_law_434 : decode bL_law 434 = .ok (.iaload, 1) := by decide +kernel
theorem dL_law_435 : decode bL_law 435 = .ok (.aload_n 0, 1) := by decide +kernel
theorem dL_law_436 : decode bL_law 436 = .ok (.iload 5, 2) := by decide +kernel
theorem dL_law_438 : decode bL_law 438 = .ok (.iconst 2, 1) := by decide +kernel
theorem dL_law_439 : decode bL_law 439 = .ok (.iadd, 1) := by decide +kernel
theorem dL_law_440 : decode bL_law 440 = .ok (.iaload, 1) := by decide +kernel
theorem dL_law_441 : decode bL_law 441 = .ok (.aload_n 3, 1) := by decide +kernel
theorem dL_law_442 : decode bL_law 442 = .ok (.invokestatic 140, 3) := by decide +kernel
theorem dL_law_445 : decode bL_law 445 = .ok (.istore 6, 2) := by decide +kernel
theorem dL_law_447 : decode bL_law 447 = .ok (.aload_n 2, 1) := by decide +kernel
theorem dL_law_448 : decode bL_law 448 = .ok (.aload_n 0, 1) := by decide +kernel
theorem dL_law_449 : decode bL_law 449 = .ok (.iload 5, 2) := by decide +kernel
theorem dL_law_451 : decode bL_law 451 = .ok (.iconst 1, 1) := by decide +kernel
theorem dL_law_452 : decode bL_law 452 = .ok (.iadd, 1) := by decide +kernel
theorem dL_law_453 : decode bL_law 453 = .ok (.iaload, 1) := by decide +kernel
theorem dL_law_454 : decode bL_law 454 = .ok (.aload_n 0, 1) := by decide +kernel
theorem dL_law_455 : decode bL_law 455 = .ok (.iload 5, 2) := by decide +kernel
theorem dL_law_457 : decode bL_law 457 = .ok (.iconst 2, 1) := by decide +kernel
theorem dL_law_458 : decode bL_law 458 = .ok (.iadd, 1) := by decide +kernel
theorem dL_law_459 : decode bL_law 459 = .ok (.iaload, 1) := by decide +kernel
theorem dL_law_460 : decode bL_law 460 = .ok (.invokevirtual 143, 3) := by decide +kernel
theorem dL_law_463 : decode bL_law 463 = .ok (.istore 7, 2) := by decide +kernel
theorem dL_law_465 : decode bL_law 465 = .ok (.aload_n 2, 1) := by decide +kernel
theorem dL_law_466 : decode bL_law 466 = .ok (.invokevirtual 117, 3) := by decide +kernel
theorem dL_law_469 : decode bL_law 469 = .ok (.iload 6, 2) := by decide +kernel
theorem dL_law_471 : decode bL_law 471 = .ok (.if_icmp .eq 5, 3) := by decide +kernel
theorem dL_law_476 : decode bL_law 476 = .ok (.iload 6, 2) := by decide +kernel
theorem dL_law_478 : decode bL_law 478 = .ok (.ifCond .ne 15, 3) := by decide +kernel
theorem dL_law_493 : decode bL_law 493 = .ok (.goto 1565, 3) := by decide +kernel
theorem dL_law_481 : decode bL_law 481 = .ok (.aload_n 3, 1) := by decide +kernel
theorem dL_law_482 : decode bL_law 482 = .ok (.iconst 0, 1) := by decide +kernel
theorem dL_law_483 : decode bL_law 483 = .ok (.laload, 1) := by decide +kernel
theorem dL_law_484 : decode bL_law 484 = .ok (.iload 7, 2) := by decide +kernel
theorem dL_law_486 : decode bL_law 486 = .ok (.i2l, 1) := by decide +kernel
theorem dL_law_487 : decode bL_law 487 = .ok (.lcmp, 1) := by decide +kernel
theorem dL_law_488 : decode bL_law 488 = .ok (.ifCond .eq 5, 3) := by decide +kernel
theorem dL_law_491 : decode bL_law 491 = .ok (.iconst 0, 1) := by decide +kernel
theorem dL_law_492 : decode bL_law 492 = .ok (.ireturn, 1) := by decide +kernel
theorem dL_law_474 : decode bL_law 474 = .ok (.iconst 0, 1) := by decide +kernel
theorem dL_law_475 : decode bL_law 475 = .ok (.ireturn, 1) := by decide +kernel
theorem dL_law_496 : decode bL_law 496 = .ok (.aload_n 1, 1) := by decide +kernel
theorem dL_law_497 : decode bL_law 497 = .ok (.aload_n 0, 1) := by decide +kernel
theorem dL_law_498 : decode bL_law 498 = .ok (.iload 5, 2) := by decide +kernel
theorem dL_law_500 : decode bL_law 500 = .ok (.iconst 1, 1) := by decide +kernel
theorem dL_law_501 : decode bL_law 501 = .ok (.iadd, 1) := by decide +kernel
theorem dL_law_502 : decode bL_law 502 = .ok (.iaload, 1) := by decide +kernel
theorem dL_law_503 : decode bL_law 503 = .ok (.aload_n 0, 1) := by decide +kernel
theorem dL_law_504 : decode bL_law 504 = .ok (.iload 5, 2) := by decide +kernel
theorem dL_law_506 : decode bL_law 506 = .ok (.iconst 2, 1) := by decide +kernel
theorem dL_law_507 : decode bL_law 507 = .ok (.iadd, 1) := by decide +kernel
theorem dL_law_508 : decode bL_law 508 = .ok (.iaload, 1) := by decide +kernel
theorem dL_law_509 : decode bL_law 509 = .ok (.aload_n 3, 1) := by decide +kernel
theorem dL_law_510 : decode bL_law 510 = .ok (.invokestatic 144, 3) := by decide +kernel
theorem dL_law_513 : decode bL_law 513 = .ok (.istore 6, 2) := by decide +kernel
theorem dL_law_515 : decode bL_law 515 = .ok (.aload_n 2, 1) := by decide +kernel
theorem dL_law_516 : decode bL_law 516 = .ok (.aload_n 0, 1) := by decide +kernel
theorem dL_law_517 : decode bL_law 517 = .ok (.iload 5, 2) := by decide +kernel
theorem dL_law_519 : decode bL_law 519 = .ok (.iconst 1, 1) := by decide +kernel
theorem dL_law_520 : decode bL_law 520 = .ok (.iadd, 1) := by decide +kernel
theorem dL_law_521 : decode bL_law 521 = .ok (.iaload, 1) := by decide +kernel
theorem dL_law_522 : decode bL_law 522 = .ok (.aload_n 0, 1) := by decide +kernel
theorem dL_law_523 : decode bL_law 523 = .ok (.iload 5, 2) := by decide +kernel
theorem dL_law_525 : decode bL_law 525 = .ok (.iconst 2, 1) := by decide +kernel
theorem dL_law_526 : decode bL_law 526 = .ok (.iadd, 1) := by decide +kernel
theorem dL_law_527 : decode bL_law 527 = .ok (.iaload, 1) := by decide +kernel
theorem dL_law_528 : decode bL_law 528 = .ok (.invokevirtual 146, 3) := by decide +kernel
theorem dL_law_531 : decode bL_law 531 = .ok (.istore 7, 2) := by decide +kernel
theorem dL_law_533 : decode bL_law 533 = .ok (.aload_n 2, 1) := by decide +kernel
theorem dL_law_534 : decode bL_law 534 = .ok (.invokevirtual 117, 3) := by decide +kernel
theorem dL_law_537 : decode bL_law 537 = .ok (.iload 6, 2) := by decide +kernel
theorem dL_law_539 : decode bL_law 539 = .ok (.if_icmp .eq 5, 3) := by decide +kernel
theorem dL_law_544 : decode bL_law 544 = .ok (.iload 6, 2) := by decide +kernel
theorem dL_law_546 : decode bL_law 546 = .ok (.ifCond .ne 15, 3) := by decide +kernel
theorem dL_law_561 : decode bL_law 561 = .ok (.goto 1497, 3) := by decide +kernel
theorem dL_law_549 : decode bL_law 549 = .ok (.aload_n 3, 1) := by decide +kernel
theorem dL_law_550 : decode bL_law 550 = .ok (.iconst 0, 1) := by decide +kernel
theorem dL_law_551 : decode bL_law 551 = .ok (.laload, 1) := by decide +kernel
theorem dL_law_552 : decode bL_law 552 = .ok (.iload 7, 2) := by decide +kernel
theorem dL_law_554 : decode bL_law 554 = .ok (.i2l, 1) := by decide +kernel
theorem dL_law_555 : decode bL_law 555 = .ok (.lcmp, 1) := by decide +kernel
theorem dL_law_556 : decode bL_law 556 = .ok (.ifCond .eq 5, 3) := by decide +kernel
theorem dL_law_559 : decode bL_law 559 = .ok (.iconst 0, 1) := by decide +kernel
theorem dL_law_560 : decode bL_law 560 = .ok (.ireturn, 1) := by decide +kernel
theorem dL_law_542 : decode bL_law 542 = .ok (.iconst 0, 1) := by decide +kernel
theorem dL_law_543 : decode bL_law 543 = .ok (.ireturn, 1) := by decide +kernel
theorem dL_law_564 : decode bL_law 564 = .ok (.aload_n 1, 1) := by decide +kernel
theorem dL_law_565 : decode bL_law 565 = .ok (.aload_n 0, 1) := by decide +kernel
theorem dL_law_566 : decode bL_law 566 = .ok (.iload 5, 2) := by decide +kernel
theorem dL_law_568 : decode bL_law 568 = .ok (.iconst 1, 1) := by decide +kernel
theorem dL_law_569 : decode bL_law 569 = .ok (.iadd, 1) := by decide +kernel
theorem dL_law_570 : decode bL_law 570 = .ok (.iaload, 1) := by decide +kernel
theorem dL_law_571 : decode bL_law 571 = .ok (.aload_n 0, 1) := by decide +kernel
theorem dL_law_572 : decode bL_law 572 = .ok (.iload 5, 2) := by decide +kernel
theorem dL_law_574 : decode bL_law 574 = .ok (.iconst 2, 1) := by decide +kernel
theorem dL_law_575 : decode bL_law 575 = .ok (.iadd, 1) := by decide +kernel
theorem dL_law_576 : decode bL_law 576 = .ok (.iaload, 1) := by decide +kernel
theorem dL_law_577 : decode bL_law 577 = .ok (.aload_n 3, 1) := by decide +kernel
theorem dL_law_578 : decode bL_law 578 = .ok (.invokestatic 147, 3) := by decide +kernel
theorem dL_law_581 : decode bL_law 581 = .ok (.istore 6, 2) := by decide +kernel
theorem dL_law_583 : decode bL_law 583 = .ok (.aload_n 2, 1) := by decide +kernel
theorem dL_law_584 : decode bL_law 584 = .ok (.aload_n 0, 1) := by decide +kernel
theorem dL_law_585 : decode bL_law 585 = .ok (.iload 5, 2) := by decide +kernel
theorem dL_law_587 : decode bL_law 587 = .ok (.iconst 1, 1) := by decide +kernel
theorem dL_law_588 : decode bL_law 588 = .ok (.iadd, 1) := by decide +kernel
theorem dL_law_589 : decode bL_law 589 = .ok (.iaload, 1) := by decide +kernel
theorem dL_law_590 : decode bL_law 590 = .ok (.aload_n 0, 1) := by decide +kernel
theorem dL_law_591 : decode bL_law 591 = .ok (.iload 5, 2) := by decide +kernel
theorem dL_law_593 : decode bL_law 593 = .ok (.iconst 2, 1) := by decide +kernel
theorem dL_law_594 : decode bL_law 594 = .ok (.iadd, 1) := by decide +kernel
theorem dL_law_595 : decode bL_law 595 = .ok (.iaload, 1) := by decide +kernel
theorem dL_law_596 : decode bL_law 596 = .ok (.invokevirtual 149, 3) := by decide +kernel
theorem dL_law_599 : decode bL_law 599 = .ok (.istore 7, 2) := by decide +kernel
theorem dL_law_601 : decode bL_law 601 = .ok (.aload_n 2, 1) := by decide +kernel
theorem dL_law_602 : decode bL_law 602 = .ok (.invokevirtual 117, 3) := by decide +kernel
theorem dL_law_605 : decode bL_law 605 = .ok (.iload 6, 2) := by decide +kernel
theorem dL_law_607 : decode bL_law 607 = .ok (.if_icmp .eq 5, 3) := by decide +kernel
theorem dL_law_612 : decode bL_law 612 = .ok (.iload 6, 2) := by decide +kernel
theorem dL_law_614 : decode bL_law 614 = .ok (.ifCond .ne 15, 3) := by decide +kernel
theorem dL_law_629 : decode bL_law 629 = .ok (.goto 1429, 3) := by decide +kernel
theorem dL_law_617 : decode bL_law 617 = .ok (.aload_n 3, 1) := by decide +kernel
theorem dL_law_618 : decode bL_law 618 = .ok (.iconst 0, 1) := by decide +kernel
theorem dL_law_619 : decode bL_law 619 = .ok (.laload, 1) := by decide +kernel
theorem dL_law_620 : decode bL_law 620 = .ok (.iload 7, 2) := by decide +kernel
theorem dL_law_622 : decode bL_law 622 = .ok (.i2l, 1) := by decide +kernel
theorem dL_law_623 : decode bL_law 623 = .ok (.lcmp, 1) := by decide +kernel
theorem dL_law_624 : decode bL_law 624 = .ok (.ifCond .eq 5, 3) := by decide +kernel
theorem dL_law_627 : decode bL_law 627 = .ok (.iconst 0, 1) := by decide +kernel
theorem dL_law_628 : decode bL_law 628 = .ok (.ireturn, 1) := by decide +kernel
theorem dL_law_610 : decode bL_law 610 = .ok (.iconst 0, 1) := by decide +kernel
theorem dL_law_611 : decode bL_law 611 = .ok (.ireturn, 1) := by decide +kernel
theorem dL_law_632 : decode bL_law 632 = .ok (.aload_n 1, 1) := by decide +kernel
theorem dL_law_633 : decode bL_law 633 = .ok (.aload_n 0, 1) := by decide +kernel
theorem dL_law_634 : decode bL_law 634 = .ok (.iload 5, 2) := by decide +kernel
theorem dL_law_636 : decode bL_law 636 = .ok (.iconst 1, 1) := by decide +kernel
theorem dL_law_637 : decode bL_law 637 = .ok (.iadd, 1) := by decide +kernel
theorem dL_law_638 : decode bL_law 638 = .ok (.iaload, 1) := by decide +kernel
theorem dL_law_639 : decode bL_law 639 = .ok (.aload_n 3, 1) := by decide +kernel
theorem dL_law_640 : decode bL_law 640 = .ok (.invokestatic 150, 3) := by decide +kernel
theorem dL_law_643 : decode bL_law 643 = .ok (.istore 6, 2) := by decide +kernel
theorem dL_law_645 : decode bL_law 645 = .ok (.aload_n 2, 1) := by decide +kernel
theorem dL_law_646 : decode bL_law 646 = .ok (.aload_n 0, 1) := by decide +kernel
theorem dL_law_647 : decode bL_law 647 = .ok (.iload 5, 2) := by decide +kernel
theorem dL_law_649 : decode bL_law 649 = .ok (.iconst 1, 1) := by decide +kernel
theorem dL_law_650 : decode bL_law 650 = .ok (.iadd, 1) := by decide +kernel
theorem dL_law_651 : decode bL_law 651 = .ok (.iaload, 1) := by decide +kernel
theorem dL_law_652 : decode bL_law 652 = .ok (.invokevirtual 152, 3) := by decide +kernel
theorem dL_law_655 : decode bL_law 655 = .ok (.istore 7, 2) := by decide +kernel
theorem dL_law_657 : decode bL_law 657 = .ok (.aload_n 2, 1) := by decide +kernel
theorem dL_law_658 : decode bL_law 658 = .ok (.invokevirtual 117, 3) := by decide +kernel
theorem dL_law_661 : decode bL_law 661 = .ok (.iload 6, 2) := by decide +kernel
theorem dL_law_663 : decode bL_law 663 = .ok (.if_icmp .eq 5, 3) := by decide +kernel
theorem dL_law_668 : decode bL_law 668 = .ok (.iload 6, 2) := by decide +kernel
theorem dL_law_670 : decode bL_law 670 = .ok (.ifCond .ne 15, 3) := by decide +kernel
theorem dL_law_685 : decode bL_law 685 = .ok (.goto 1373, 3) := by decide +kernel
theorem dL_law_673 : decode bL_law 673 = .ok (.aload_n 3, 1) := by decide +kernel
theorem dL_law_674 : decode bL_law 674 = .ok (.iconst 0, 1) := by decide +kernel
theorem dL_law_675 : decode bL_law 675 = .ok (.laload, 1) := by decide +kernel
theorem dL_law_676 : decode bL_law 676 = .ok (.iload 7, 2) := by decide +kernel
theorem dL_law_678 : decode bL_law 678 = .ok (.i2l, 1) := by decide +kernel
theorem dL_law_679 : decode bL_law 679 = .ok (.lcmp, 1) := by decide +kernel
theorem dL_law_680 : decode bL_law 680 = .ok (.ifCond .eq 5, 3) := by decide +kernel
theorem dL_law_683 : decode bL_law 683 = .ok (.iconst 0, 1) := by decide +kernel
theorem dL_law_684 : decode bL_law 684 = .ok (.ireturn, 1) := by decide +kernel
theorem dL_law_666 : decode bL_law 666 = .ok (.iconst 0, 1) := by decide +kernel
theorem dL_law_667 : decode bL_law 667 = .ok (.ireturn, 1) := by decide +kernel
theorem dL_law_688 : decode bL_law 688 = .ok (.aload_n 1, 1) := by decide +kernel
theorem dL_law_689 : decode bL_law 689 = .ok (.aload_n 0, 1) := by decide +kernel
theorem dL_law_690 : decode bL_law 690 = .ok (.iload 5, 2) := by decide +kernel
theorem dL_law_692 : decode bL_law 692 = .ok (.iconst 1, 1) := by decide +kernel
theorem dL_law_693 : decode bL_law 693 = .ok (.iadd, 1) := by decide +kernel
theorem dL_law_694 : decode bL_law 694 = .ok (.iaload, 1) := by decide +kernel
theorem dL_law_695 : decode bL_law 695 = .ok (.aload_n 0, 1) := by decide +kernel
theorem dL_law_696 : decode bL_law 696 = .ok (.iload 5, 2) := by decide +kernel
theorem dL_law_698 : decode bL_law 698 = .ok (.iconst 2, 1) := by decide +kernel
theorem dL_law_699 : decode bL_law 699 = .ok (.iadd, 1) := by decide +kernel
theorem dL_law_700 : decode bL_law 700 = .ok (.iaload, 1) := by decide +kernel
theorem dL_law_701 : decode bL_law 701 = .ok (.aload_n 3, 1) := by decide +kernel
theorem dL_law_702 : decode bL_law 702 = .ok (.invokestatic 153, 3) := by decide +kernel
theorem dL_law_705 : decode bL_law 705 = .ok (.istore 6, 2) := by decide +kernel
theorem dL_law_707 : decode bL_law 707 = .ok (.aload_n 2, 1) := by decide +kernel
theorem dL_law_708 : decode bL_law 708 = .ok (.aload_n 0, 1) := by decide +kernel
theorem dL_law_709 : decode bL_law 709 = .ok (.iload 5, 2) := by decide +kernel
theorem dL_law_711 : decode bL_law 711 = .ok (.iconst 1, 1) := by decide +kernel
theorem dL_law_712 : decode bL_law 712 = .ok (.iadd, 1) := by decide +kernel
theorem dL_law_713 : decode bL_law 713 = .ok (.iaload, 1) := by decide +kernel
theorem dL_law_714 : decode bL_law 714 = .ok (.aload_n 0, 1) := by decide +kernel
theorem dL_law_715 : decode bL_law 715 = .ok (.iload 5, 2) := by decide +kernel
theorem dL_law_717 : decode bL_law 717 = .ok (.iconst 2, 1) := by decide +kernel
theorem dL_law_718 : decode bL_law 718 = .ok (.iadd, 1) := by decide +kernel
theorem dL_law_719 : decode bL_law 719 = .ok (.iaload, 1) := by decide +kernel
theorem dL_law_720 : decode bL_law 720 = .ok (.invokevirtual 155, 3) := by decide +kernel
theorem dL_law_723 : decode bL_law 723 = .ok (.istore 7, 2) := by decide +kernel
theorem dL_law_725 : decode bL_law 725 = .ok (.aload_n 2, 1) := by decide +kernel
theorem dL_law_726 : decode bL_law 726 = .ok (.invokevirtual 117, 3) := by decide +kernel
theorem dL_law_729 : decode bL_law 729 = .ok (.iload 6, 2) := by decide +kernel
theorem dL_law_731 : decode bL_law 731 = .ok (.if_icmp .eq 5, 3) := by decide +kernel
theorem dL_law_736 : decode bL_law 736 = .ok (.iload 6, 2) := by decide +kernel
theorem dL_law_738 : decode bL_law 738 = .ok (.ifCond .ne 15, 3) := by decide +kernel
theorem dL_law_753 : decode bL_law 753 = .ok (.goto 1305, 3) := by decide +kernel
theorem dL_law_741 : decode bL_law 741 = .ok (.aload_n 3, 1) := by decide +kernel
theorem dL_law_742 : decode bL_law 742 = .ok (.iconst 0, 1) := by decide +kernel
theorem dL_law_743 : decode bL_law 743 = .ok (.laload, 1) := by decide +kernel
theorem dL_law_744 : decode bL_law 744 = .ok (.iload 7, 2) := by decide +kernel
theorem dL_law_746 : decode bL_law 746 = .ok (.i2l, 1) := by decide +kernel
theorem dL_law_747 : decode bL_law 747 = .ok (.lcmp, 1) := by decide +kernel
theorem dL_law_748 : decode bL_law 748 = .ok (.ifCond .eq 5, 3) := by decide +kernel
theorem dL_law_751 : decode bL_law 751 = .ok (.iconst 0, 1) := by decide +kernel
theorem dL_law_752 : decode bL_law 752 = .ok (.ireturn, 1) := by decide +kernel
theorem dL_law_734 : decode bL_law 734 = .ok (.iconst 0, 1) := by decide +kernel
theorem dL_law_735 : decode bL_law 735 = .ok (.ireturn, 1) := by decide +kernel
theorem dL_law_756 : decode bL_law 756 = .ok (.aload_n 1, 1) := by decide +kernel
theorem dL_law_757 : decode bL_law 757 = .ok (.aload_n 0, 1) := by decide +kernel
theorem dL_law_758 : decode bL_law 758 = .ok (.iload 5, 2) := by decide +kernel
theorem dL_law_760 : decode bL_law 760 = .ok (.iconst 1, 1) := by decide +kernel
theorem dL_law_761 : decode bL_law 761 = .ok (.iadd, 1) := by decide +kernel
theorem dL_law_762 : decode bL_law 762 = .ok (.iaload, 1) := by decide +kernel
theorem dL_law_763 : decode bL_law 763 = .ok (.aload_n 3, 1) := by decide +kernel
theorem dL_law_764 : decode bL_law 764 = .ok (.invokestatic 156, 3) := by decide +kernel
theorem dL_law_767 : decode bL_law 767 = .ok (.istore 6, 2) := by decide +kernel
theorem dL_law_769 : decode bL_law 769 = .ok (.aload_n 2, 1) := by decide +kernel
theorem dL_law_770 : decode bL_law 770 = .ok (.aload_n 0, 1) := by decide +kernel
theorem dL_law_771 : decode bL_law 771 = .ok (.iload 5, 2) := by decide +kernel
theorem dL_law_773 : decode bL_law 773 = .ok (.iconst 1, 1) := by decide +kernel
theorem dL_law_774 : decode bL_law 774 = .ok (.iadd, 1) := by decide +kernel
theorem dL_law_775 : decode bL_law 775 = .ok (.iaload, 1) := by decide +kernel
theorem dL_law_776 : decode bL_law 776 = .ok (.invokevirtual 158, 3) := by decide +kernel
theorem dL_law_779 : decode bL_law 779 = .ok (.istore 7, 2) := by decide +kernel
theorem dL_law_781 : decode bL_law 781 = .ok (.aload_n 2, 1) := by decide +kernel
theorem dL_law_782 : decode bL_law 782 = .ok (.invokevirtual 117, 3) := by decide +kernel
theorem dL_law_785 : decode bL_law 785 = .ok (.iload 6, 2) := by decide +kernel
theorem dL_law_787 : decode bL_law 787 = .ok (.if_icmp .eq 5, 3) := by decide +kernel
theorem dL_law_792 : decode bL_law 792 = .ok (.iload 6, 2) := by decide +kernel
theorem dL_law_794 : decode bL_law 794 = .ok (.ifCond .ne 15, 3) := by decide +kernel
theorem dL_law_809 : decode bL_law 809 = .ok (.goto 1249, 3) := by decide +kernel
theorem dL_law_797 : decode bL_law 797 = .ok (.aload_n 3, 1) := by decide +kernel
theorem dL_law_798 : decode bL_law 798 = .ok (.iconst 0, 1) := by decide +kernel
theorem dL_law_799 : decode bL_law 799 = .ok (.laload, 1) := by decide +kernel
theorem dL_law_800 : decode bL_law 800 = .ok (.iload 7, 2) := by decide +kernel
theorem dL_law_802 : decode bL_law 802 = .ok (.i2l, 1) := by decide +kernel
theorem dL_law_803 : decode bL_law 803 = .ok (.lcmp, 1) := by decide +kernel
theorem dL_law_804 : decode bL_law 804 = .ok (.ifCond .eq 5, 3) := by decide +kernel
theorem dL_law_807 : decode bL_law 807 = .ok (.iconst 0, 1) := by decide +kernel
theorem dL_law_808 : decode bL_law 808 = .ok (.ireturn, 1) := by decide +kernel
theorem dL_law_790 : decode bL_law 790 = .ok (.iconst 0, 1) := by decide +kernel
theorem dL_law_791 : decode bL_law 791 = .ok (.ireturn, 1) := by decide +kernel
theorem dL_law_812 : decode bL_law 812 = .ok (.aload_n 1, 1) := by decide +kernel
theorem dL_law_813 : decode bL_law 813 = .ok (.aload_n 0, 1) := by decide +kernel
theorem dL_law_814 : decode bL_law 814 = .ok (.iload 5, 2) := by decide +kernel
theorem dL_law_816 : decode bL_law 816 = .ok (.iconst 1, 1) := by decide +kernel
theorem dL_law_817 : decode bL_law 817 = .ok (.iadd, 1) := by decide +kernel
theorem dL_law_818 : decode bL_law 818 = .ok (.iaload, 1) := by decide +kernel
theorem dL_law_819 : decode bL_law 819 = .ok (.aload_n 0, 1) := by decide +kernel
theorem dL_law_820 : decode bL_law 820 = .ok (.iload 5, 2) := by decide +kernel
theorem dL_law_822 : decode bL_law 822 = .ok (.iconst 2, 1) := by decide +kernel
theorem dL_law_823 : decode bL_law 823 = .ok (.iadd, 1) := by decide +kernel
theorem dL_law_824 : decode bL_law 824 = .ok (.iaload, 1) := by decide +kernel
theorem dL_law_825 : decode bL_law 825 = .ok (.aload_n 3, 1) := by decide +kernel
theorem dL_law_826 : decode bL_law 826 = .ok (.invokestatic 159, 3) := by decide +kernel
theorem dL_law_829 : decode bL_law 829 = .ok (.istore 6, 2) := by decide +kernel
theorem dL_law_831 : decode bL_law 831 = .ok (.aload_n 2, 1) := by decide +kernel
theorem dL_law_832 : decode bL_law 832 = .ok (.aload_n 0, 1) := by decide +kernel
theorem dL_law_833 : decode bL_law 833 = .ok (.iload 5, 2) := by decide +kernel
theorem dL_law_835 : decode bL_law 835 = .ok (.iconst 1, 1) := by decide +kernel
theorem dL_law_836 : decode bL_law 836 = .ok (.iadd, 1) := by decide +kernel
theorem dL_law_837 : decode bL_law 837 = .ok (.iaload, 1) := by decide +kernel
theorem dL_law_838 : decode bL_law 838 = .ok (.aload_n 0, 1) := by decide +kernel
theorem dL_law_839 : decode bL_law 839 = .ok (.iload 5, 2) := by decide +kernel
theorem dL_law_841 : decode bL_law 841 = .ok (.iconst 2, 1) := by decide +kernel
theorem dL_law_842 : decode bL_law 842 = .ok (.iadd, 1) := by decide +kernel
theorem dL_law_843 : decode bL_law 843 = .ok (.iaload, 1) := by decide +kernel
theorem dL_law_844 : decode bL_law 844 = .ok (.invokevirtual 161, 3) := by decide +kernel
theorem dL_law_847 : decode bL_law 847 = .ok (.istore 7, 2) := by decide +kernel
theorem dL_law_849 : decode bL_law 849 = .ok (.aload_n 2, 1) := by decide +kernel
theorem dL_law_850 : decode bL_law 850 = .ok (.invokevirtual 117, 3) := by decide +kernel
theorem dL_law_853 : decode bL_law 853 = .ok (.iload 6, 2) := by decide +kernel
theorem dL_law_855 : decode bL_law 855 = .ok (.if_icmp .eq 5, 3) := by decide +kernel
theorem dL_law_860 : decode bL_law 860 = .ok (.iload 6, 2) := by decide +kernel
theorem dL_law_862 : decode bL_law 862 = .ok (.ifCond .ne 15, 3) := by decide +kernel
theorem dL_law_877 : decode bL_law 877 = .ok (.goto 1181, 3) := by decide +kernel
theorem dL_law_865 : decode bL_law 865 = .ok (.aload_n 3, 1) := by decide +kernel
theorem dL_law_866 : decode bL_law 866 = .ok (.iconst 0, 1) := by decide +kernel
theorem dL_law_867 : decode bL_law 867 = .ok (.laload, 1) := by decide +kernel
theorem dL_law_868 : decode bL_law 868 = .ok (.iload 7, 2) := by decide +kernel
theorem dL_law_870 : decode bL_law 870 = .ok (.i2l, 1) := by decide +kernel
theorem dL_law_871 : decode bL_law 871 = .ok (.lcmp, 1) := by decide +kernel
theorem dL_law_872 : decode bL_law 872 = .ok (.ifCond .eq 5, 3) := by decide +kernel
theorem dL_law_875 : decode bL_law 875 = .ok (.iconst 0, 1) := by decide +kernel
theorem dL_law_876 : decode bL_law 876 = .ok (.ireturn, 1) := by decide +kernel
theorem dL_law_858 : decode bL_law 858 = .ok (.iconst 0, 1) := by decide +kernel
theorem dL_law_859 : decode bL_law 859 = .ok (.ireturn, 1) := by decide +kernel
theorem dL_law_880 : decode bL_law 880 = .ok (.aload_n 1, 1) := by decide +kernel
theorem dL_law_881 : decode bL_law 881 = .ok (.aload_n 0, 1) := by decide +kernel
theorem dL_law_882 : decode bL_law 882 = .ok (.iload 5, 2) := by decide +kernel
theorem dL_law_884 : decode bL_law 884 = .ok (.iconst 1, 1) := by decide +kernel
theorem dL_law_885 : decode bL_law 885 = .ok (.iadd, 1) := by decide +kernel
theorem dL_law_886 : decode bL_law 886 = .ok (.iaload, 1) := by decide +kernel
theorem dL_law_887 : decode bL_law 887 = .ok (.aload_n 0, 1) := by decide +kernel
theorem dL_law_888 : decode bL_law 888 = .ok (.iload 5, 2) := by decide +kernel
theorem dL_law_890 : decode bL_law 890 = .ok (.iconst 2, 1) := by decide +kernel
theorem dL_law_891 : decode bL_law 891 = .ok (.iadd, 1) := by decide +kernel
theorem dL_law_892 : decode bL_law 892 = .ok (.iaload, 1) := by decide +kernel
theorem dL_law_893 : decode bL_law 893 = .ok (.aload_n 3, 1) := by decide +kernel
theorem dL_law_894 : decode bL_law 894 = .ok (.invokestatic 162, 3) := by decide +kernel
theorem dL_law_897 : decode bL_law 897 = .ok (.istore 6, 2) := by decide +kernel
theorem dL_law_899 : decode bL_law 899 = .ok (.aload_n 2, 1) := by decide +kernel
theorem dL_law_900 : decode bL_law 900 = .ok (.aload_n 0, 1) := by decide +kernel
theorem dL_law_901 : decode bL_law 901 = .ok (.iload 5, 2) := by decide +kernel
theorem dL_law_903 : decode bL_law 903 = .ok (.iconst 1, 1) := by decide +kernel
theorem dL_law_904 : decode bL_law 904 = .ok (.iadd, 1) := by decide +kernel
theorem dL_law_905 : decode bL_law 905 = .ok (.iaload, 1) := by decide +kernel
theorem dL_law_906 : decode bL_law 906 = .ok (.aload_n 0, 1) := by decide +kernel
theorem dL_law_907 : decode bL_law 907 = .ok (.iload 5, 2) := by decide +kernel
theorem dL_law_909 : decode bL_law 909 = .ok (.iconst 2, 1) := by decide +kernel
theorem dL_law_910 : decode bL_law 910 = .ok (.iadd, 1) := by decide +kernel
theorem dL_law_911 : decode bL_law 911 = .ok (.iaload, 1) := by decide +kernel
theorem dL_law_912 : decode bL_law 912 = .ok (.invokevirtual 164, 3) := by decide +kernel
theorem dL_law_915 : decode bL_law 915 = .ok (.istore 7, 2) := by decide +kernel
theorem dL_law_917 : decode bL_law 917 = .ok (.aload_n 2, 1) := by decide +kernel
theorem dL_law_918 : decode bL_law 918 = .ok (.invokevirtual 117, 3) := by decide +kernel
theorem dL_law_921 : decode bL_law 921 = .ok (.iload 6, 2) := by decide +kernel
theorem dL_law_923 : decode bL_law 923 = .ok (.if_icmp .eq 5, 3) := by decide +kernel
theorem dL_law_928 : decode bL_law 928 = .ok (.iload 6, 2) := by decide +kernel
theorem dL_law_930 : decode bL_law 930 = .ok (.ifCond .ne 15, 3) := by decide +kernel
theorem dL_law_945 : decode bL_law 945 = .ok (.goto 1113, 3) := by decide +kernel
theorem dL_law_933 : decode bL_law 933 = .ok (.aload_n 3, 1) := by decide +kernel
theorem dL_law_934 : decode bL_law 934 = .ok (.iconst 0, 1) := by decide +kernel
theorem dL_law_935 : decode bL_law 935 = .ok (.laload, 1) := by decide +kernel
theorem dL_law_936 : decode bL_law 936 = .ok (.iload 7, 2) := by decide +kernel
theorem dL_law_938 : decode bL_law 938 = .ok (.i2l, 1) := by decide +kernel
theorem dL_law_939 : decode bL_law 939 = .ok (.lcmp, 1) := by decide +kernel
theorem dL_law_940 : decode bL_law 940 = .ok (.ifCond .eq 5, 3) := by decide +kernel
theorem dL_law_943 : decode bL_law 943 = .ok (.iconst 0, 1) := by decide +kernel
theorem dL_law_944 : decode bL_law 944 = .ok (.ireturn, 1) := by decide +kernel
theorem dL_law_926 : decode bL_law 926 = .ok (.iconst 0, 1) := by decide +kernel
theorem dL_law_927 : decode bL_law 927 = .ok (.ireturn, 1) := by decide +kernel
theorem dL_law_948 : decode bL_law 948 = .ok (.aload_n 1, 1) := by decide +kernel
theorem dL_law_949 : decode bL_law 949 = .ok (.aload_n 0, 1) := by decide +kernel
theorem dL_law_950 : decode bL_law 950 = .ok (.iload 5, 2) := by decide +kernel
theorem dL_law_952 : decode bL_law 952 = .ok (.iconst 1, 1) := by decide +kernel
theorem dL_law_953 : decode bL_law 953 = .ok (.iadd, 1) := by decide +kernel
theorem dL_law_954 : decode bL_law 954 = .ok (.iaload, 1) := by decide +kernel
theorem dL_law_955 : decode bL_law 955 = .ok (.aload_n 0, 1) := by decide +kernel
theorem dL_law_956 : decode bL_law 956 = .ok (.iload 5, 2) := by decide +kernel
theorem dL_law_958 : decode bL_law 958 = .ok (.iconst 2, 1) := by decide +kernel
theorem dL_law_959 : decode bL_law 959 = .ok (.iadd, 1) := by decide +kernel
theorem dL_law_960 : decode bL_law 960 = .ok (.iaload, 1) := by decide +kernel
theorem dL_law_961 : decode bL_law 961 = .ok (.aload_n 3, 1) := by decide +kernel
theorem dL_law_962 : decode bL_law 962 = .ok (.invokestatic 165, 3) := by decide +kernel
theorem dL_law_965 : decode bL_law 965 = .ok (.istore 6, 2) := by decide +kernel
theorem dL_law_967 : decode bL_law 967 = .ok (.aload_n 2, 1) := by decide +kernel
theorem dL_law_968 : decode bL_law 968 = .ok (.aload_n 0, 1) := by decide +kernel
theorem dL_law_969 : decode bL_law 969 = .ok (.iload 5, 2) := by decide +kernel
theorem dL_law_971 : decode bL_law 971 = .ok (.iconst 1, 1) := by decide +kernel
theorem dL_law_972 : decode bL_law 972 = .ok (.iadd, 1) := by decide +kernel
theorem dL_law_973 : decode bL_law 973 = .ok (.iaload, 1) := by decide +kernel
theorem dL_law_974 : decode bL_law 974 = .ok (.aload_n 0, 1) := by decide +kernel
theorem dL_law_975 : decode bL_law 975 = .ok (.iload 5, 2) := by decide +kernel
theorem dL_law_977 : decode bL_law 977 = .ok (.iconst 2, 1) := by decide +kernel
theorem dL_law_978 : decode bL_law 978 = .ok (.iadd, 1) := by decide +kernel
theorem dL_law_979 : decode bL_law 979 = .ok (.iaload, 1) := by decide +kernel
theorem dL_law_980 : decode bL_law 980 = .ok (.invokevirtual 167, 3) := by decide +kernel
theorem dL_law_983 : decode bL_law 983 = .ok (.istore 7, 2) := by decide +kernel
theorem dL_law_985 : decode bL_law 985 = .ok (.aload_n 2, 1) := by decide +kernel
theorem dL_law_986 : decode bL_law 986 = .ok (.invokevirtual 117, 3) := by decide +kernel
theorem dL_law_989 : decode bL_law 989 = .ok (.iload 6, 2) := by decide +kernel
theorem dL_law_991 : decode bL_law 991 = .ok (.if_icmp .eq 5, 3) := by decide +kernel
theorem dL_law_996 : decode bL_law 996 = .ok (.iload 6, 2) := by decide +kernel
theorem dL_law_998 : decode bL_law 998 = .ok (.ifCond .ne 15, 3) := by decide +kernel
theorem dL_law_1013 : decode bL_law 1013 = .ok (.goto 1045, 3) := by decide +kernel
theorem dL_law_1001 : decode bL_law 1001 = .ok (.aload_n 3, 1) := by decide +kernel
theorem dL_law_1002 : decode bL_law 1002 = .ok (.iconst 0, 1) := by decide +kernel
theorem dL_law_1003 : decode bL_law 1003 = .ok (.laload, 1) := by decide +kernel
theorem dL_law_1004 : decode bL_law 1004 = .ok (.iload 7, 2) := by decide +kernel
theorem dL_law_1006 : decode bL_law 1006 = .ok (.i2l, 1) := by decide +kernel
theorem dL_law_1007 : decode bL_law 1007 = .ok (.lcmp, 1) := by decide +kernel
theorem dL_law_1008 : decode bL_law 1008 = .ok (.ifCond .eq 5, 3) := by decide +kernel
theorem dL_law_1011 : decode bL_law 1011 = .ok (.iconst 0, 1) := by decide +kernel
theorem dL_law_1012 : decode bL_law 1012 = .ok (.ireturn, 1) := by decide +kernel
theorem dL_law_994 : decode bL_law 994 = .ok (.iconst 0, 1) := by decide +kernel
theorem dL_law_995 : decode bL_law 995 = .ok (.ireturn, 1) := by decide +kernel
theorem dL_law_1016 : decode bL_law 1016 = .ok (.aload_n 1, 1) := by decide +kernel
theorem dL_law_1017 : decode bL_law 1017 = .ok (.aload_n 0, 1) := by decide +kernel
theorem dL_law_1018 : decode bL_law 1018 = .ok (.iload 5, 2) := by decide +kernel
theorem dL_law_1020 : decode bL_law 1020 = .ok (.iconst 1, 1) := by decide +kernel
theorem dL_law_1021 : decode bL_law 1021 = .ok (.iadd, 1) := by decide +kernel
theorem dL_law_1022 : decode bL_law 1022 = .ok (.iaload, 1) := by decide +kernel
theorem dL_law_1023 : decode bL_law 1023 = .ok (.aload_n 3, 1) := by decide +kernel
theorem dL_law_1024 : decode bL_law 1024 = .ok (.invokestatic 168, 3) := by decide +kernel
theorem dL_law_1027 : decode bL_law 1027 = .ok (.istore 6, 2) := by decide +kernel
theorem dL_law_1029 : decode bL_law 1029 = .ok (.aload_n 2, 1) := by decide +kernel
theorem dL_law_1030 : decode bL_law 1030 = .ok (.aload_n 0, 1) := by decide +kernel
theorem dL_law_1031 : decode bL_law 1031 = .ok (.iload 5, 2) := by decide +kernel
theorem dL_law_1033 : decode bL_law 1033 = .ok (.iconst 1, 1) := by decide +kernel
theorem dL_law_1034 : decode bL_law 1034 = .ok (.iadd, 1) := by decide +kernel
theorem dL_law_1035 : decode bL_law 1035 = .ok (.iaload, 1) := by decide +kernel
theorem dL_law_1036 : decode bL_law 1036 = .ok (.invokevirtual 170, 3) := by decide +kernel
theorem dL_law_1039 : decode bL_law 1039 = .ok (.istore 7, 2) := by decide +kernel
theorem dL_law_1041 : decode bL_law 1041 = .ok (.aload_n 2, 1) := by decide +kernel
theorem dL_law_1042 : decode bL_law 1042 = .ok (.invokevirtual 117, 3) := by decide +kernel
theorem dL_law_1045 : decode bL_law 1045 = .ok (.iload 6, 2) := by decide +kernel
theorem dL_law_1047 : decode bL_law 1047 = .ok (.if_icmp .eq 5, 3) := by decide +kernel
theorem dL_law_1052 : decode bL_law 1052 = .ok (.iload 6, 2) := by decide +kernel
theorem dL_law_1054 : decode bL_law 1054 = .ok (.ifCond .ne 15, 3) := by decide +kernel
theorem dL_law_1069 : decode bL_law 1069 = .ok (.goto 989, 3) := by decide +kernel
theorem dL_law_1057 : decode bL_law 1057 = .ok (.aload_n 3, 1) := by decide +kernel
theorem dL_law_1058 : decode bL_law 1058 = .ok (.iconst 0, 1) := by decide +kernel
theorem dL_law_1059 : decode bL_law 1059 = .ok (.laload, 1) := by decide +kernel
theorem dL_law_1060 : decode bL_law 1060 = .ok (.iload 7, 2) := by decide +kernel
theorem dL_law_1062 : decode bL_law 1062 = .ok (.i2l, 1) := by decide +kernel
theorem dL_law_1063 : decode bL_law 1063 = .ok (.lcmp, 1) := by decide +kernel
theorem dL_law_1064 : decode bL_law 1064 = .ok (.ifCond .eq 5, 3) := by decide +kernel

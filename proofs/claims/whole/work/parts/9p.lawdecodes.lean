/-! the law: its instructions and its links, printed by a program of mine out of the claim's papers -/
theorem dL_0 : decode code 0 = .ok (.new 7, 3) := by decide +kernel
theorem dL_3 : decode code 3 = .ok (.dup, 1) := by decide +kernel
theorem dL_4 : decode code 4 = .ok (.invokespecial 9, 3) := by decide +kernel
theorem dL_7 : decode code 7 = .ok (.astore_n 1, 1) := by decide +kernel
theorem dL_8 : decode code 8 = .ok (.new 10, 3) := by decide +kernel
theorem dL_11 : decode code 11 = .ok (.dup, 1) := by decide +kernel
theorem dL_12 : decode code 12 = .ok (.invokespecial 12, 3) := by decide +kernel
theorem dL_15 : decode code 15 = .ok (.astore_n 2, 1) := by decide +kernel
theorem dL_16 : decode code 16 = .ok (.iconst 0, 1) := by decide +kernel
theorem dL_17 : decode code 17 = .ok (.istore_n 3, 1) := by decide +kernel
theorem dL_18 : decode code 18 = .ok (.iload_n 3, 1) := by decide +kernel
theorem dL_19 : decode code 19 = .ok (.aload_n 0, 1) := by decide +kernel
theorem dL_20 : decode code 20 = .ok (.arraylength, 1) := by decide +kernel
theorem dL_21 : decode code 21 = .ok (.bipush 6, 2) := by decide +kernel
theorem dL_23 : decode code 23 = .ok (.isub, 1) := by decide +kernel
theorem dL_24 : decode code 24 = .ok (.if_icmp .gt 1330, 3) := by decide +kernel
theorem dL_27 : decode code 27 = .ok (.aload_n 0, 1) := by decide +kernel
theorem dL_28 : decode code 28 = .ok (.iload_n 3, 1) := by decide +kernel
theorem dL_29 : decode code 29 = .ok (.iaload, 1) := by decide +kernel
theorem dL_30 : decode code 30 = .ok (.bipush 63, 2) := by decide +kernel
theorem dL_32 : decode code 32 = .ok (.iand, 1) := by decide +kernel
theorem dL_33 : decode code 33 = .ok (.tableswitch 1315 0 40 #[179, 242, 265, 278, 321, 344, 367, 390, 413, 426, 459, 492, 505, 528, 551, 584, 607, 640, 673, 697, 720, 743, 776, 819, 862, 885, 918, 941, 964, 988, 1021, 1054, 1087, 1110, 1124, 1147, 1170, 1203, 1236, 1269, 1292], 179) := by decide +kernel
theorem dL_212 : decode code 212 = .ok (.aload_n 1, 1) := by decide +kernel
theorem dL_213 : decode code 213 = .ok (.aload_n 0, 1) := by decide +kernel
theorem dL_214 : decode code 214 = .ok (.iload_n 3, 1) := by decide +kernel
theorem dL_215 : decode code 215 = .ok (.iconst 1, 1) := by decide +kernel
theorem dL_216 : decode code 216 = .ok (.iadd, 1) := by decide +kernel
theorem dL_217 : decode code 217 = .ok (.iaload, 1) := by decide +kernel
theorem dL_218 : decode code 218 = .ok (.aload_n 0, 1) := by decide +kernel
theorem dL_219 : decode code 219 = .ok (.iload_n 3, 1) := by decide +kernel
theorem dL_220 : decode code 220 = .ok (.iconst 2, 1) := by decide +kernel
theorem dL_221 : decode code 221 = .ok (.iadd, 1) := by decide +kernel
theorem dL_222 : decode code 222 = .ok (.iaload, 1) := by decide +kernel
theorem dL_223 : decode code 223 = .ok (.aload_n 0, 1) := by decide +kernel
theorem dL_224 : decode code 224 = .ok (.iload_n 3, 1) := by decide +kernel
theorem dL_225 : decode code 225 = .ok (.iconst 3, 1) := by decide +kernel
theorem dL_226 : decode code 226 = .ok (.iadd, 1) := by decide +kernel
theorem dL_227 : decode code 227 = .ok (.iaload, 1) := by decide +kernel
theorem dL_228 : decode code 228 = .ok (.aload_n 0, 1) := by decide +kernel
theorem dL_229 : decode code 229 = .ok (.iload_n 3, 1) := by decide +kernel
theorem dL_230 : decode code 230 = .ok (.iconst 4, 1) := by decide +kernel
theorem dL_231 : decode code 231 = .ok (.iadd, 1) := by decide +kernel
theorem dL_232 : decode code 232 = .ok (.iaload, 1) := by decide +kernel
theorem dL_233 : decode code 233 = .ok (.aload_n 0, 1) := by decide +kernel
theorem dL_234 : decode code 234 = .ok (.iload_n 3, 1) := by decide +kernel
theorem dL_235 : decode code 235 = .ok (.iconst 5, 1) := by decide +kernel
theorem dL_236 : decode code 236 = .ok (.iadd, 1) := by decide +kernel
theorem dL_237 : decode code 237 = .ok (.iaload, 1) := by decide +kernel
theorem dL_238 : decode code 238 = .ok (.invokevirtual 13, 3) := by decide +kernel
theorem dL_241 : decode code 241 = .ok (.aload_n 2, 1) := by decide +kernel
theorem dL_242 : decode code 242 = .ok (.aload_n 0, 1) := by decide +kernel
theorem dL_243 : decode code 243 = .ok (.iload_n 3, 1) := by decide +kernel
theorem dL_244 : decode code 244 = .ok (.iconst 1, 1) := by decide +kernel
theorem dL_245 : decode code 245 = .ok (.iadd, 1) := by decide +kernel
theorem dL_246 : decode code 246 = .ok (.iaload, 1) := by decide +kernel
theorem dL_247 : decode code 247 = .ok (.aload_n 0, 1) := by decide +kernel
theorem dL_248 : decode code 248 = .ok (.iload_n 3, 1) := by decide +kernel
theorem dL_249 : decode code 249 = .ok (.iconst 2, 1) := by decide +kernel
theorem dL_250 : decode code 250 = .ok (.iadd, 1) := by decide +kernel
theorem dL_251 : decode code 251 = .ok (.iaload, 1) := by decide +kernel
theorem dL_252 : decode code 252 = .ok (.aload_n 0, 1) := by decide +kernel
theorem dL_253 : decode code 253 = .ok (.iload_n 3, 1) := by decide +kernel
theorem dL_254 : decode code 254 = .ok (.iconst 3, 1) := by decide +kernel
theorem dL_255 : decode code 255 = .ok (.iadd, 1) := by decide +kernel
theorem dL_256 : decode code 256 = .ok (.iaload, 1) := by decide +kernel
theorem dL_257 : decode code 257 = .ok (.aload_n 0, 1) := by decide +kernel
theorem dL_258 : decode code 258 = .ok (.iload_n 3, 1) := by decide +kernel
theorem dL_259 : decode code 259 = .ok (.iconst 4, 1) := by decide +kernel
theorem dL_260 : decode code 260 = .ok (.iadd, 1) := by decide +kernel
theorem dL_261 : decode code 261 = .ok (.iaload, 1) := by decide +kernel
theorem dL_262 : decode code 262 = .ok (.aload_n 0, 1) := by decide +kernel
theorem dL_263 : decode code 263 = .ok (.iload_n 3, 1) := by decide +kernel
theorem dL_264 : decode code 264 = .ok (.iconst 5, 1) := by decide +kernel
theorem dL_265 : decode code 265 = .ok (.iadd, 1) := by decide +kernel
theorem dL_266 : decode code 266 = .ok (.iaload, 1) := by decide +kernel
theorem dL_267 : decode code 267 = .ok (.invokevirtual 17, 3) := by decide +kernel
theorem dL_270 : decode code 270 = .ok (.if_icmp .eq 1078, 3) := by decide +kernel
theorem dL_273 : decode code 273 = .ok (.iconst 0, 1) := by decide +kernel
theorem dL_274 : decode code 274 = .ok (.ireturn, 1) := by decide +kernel
theorem dL_275 : decode code 275 = .ok (.aload_n 1, 1) := by decide +kernel
theorem dL_276 : decode code 276 = .ok (.aload_n 0, 1) := by decide +kernel
theorem dL_277 : decode code 277 = .ok (.iload_n 3, 1) := by decide +kernel
theorem dL_278 : decode code 278 = .ok (.iconst 1, 1) := by decide +kernel
theorem dL_279 : decode code 279 = .ok (.iadd, 1) := by decide +kernel
theorem dL_280 : decode code 280 = .ok (.iaload, 1) := by decide +kernel
theorem dL_281 : decode code 281 = .ok (.invokevirtual 18, 3) := by decide +kernel
theorem dL_284 : decode code 284 = .ok (.aload_n 2, 1) := by decide +kernel
theorem dL_285 : decode code 285 = .ok (.aload_n 0, 1) := by decide +kernel
theorem dL_286 : decode code 286 = .ok (.iload_n 3, 1) := by decide +kernel
theorem dL_287 : decode code 287 = .ok (.iconst 1, 1) := by decide +kernel
theorem dL_288 : decode code 288 = .ok (.iadd, 1) := by decide +kernel
theorem dL_289 : decode code 289 = .ok (.iaload, 1) := by decide +kernel
theorem dL_290 : decode code 290 = .ok (.invokevirtual 22, 3) := by decide +kernel
theorem dL_293 : decode code 293 = .ok (.if_icmp .eq 1055, 3) := by decide +kernel
theorem dL_296 : decode code 296 = .ok (.iconst 0, 1) := by decide +kernel
theorem dL_297 : decode code 297 = .ok (.ireturn, 1) := by decide +kernel
theorem dL_298 : decode code 298 = .ok (.aload_n 1, 1) := by decide +kernel
theorem dL_299 : decode code 299 = .ok (.invokevirtual 23, 3) := by decide +kernel
theorem dL_302 : decode code 302 = .ok (.aload_n 2, 1) := by decide +kernel
theorem dL_303 : decode code 303 = .ok (.invokevirtual 27, 3) := by decide +kernel
theorem dL_306 : decode code 306 = .ok (.if_icmp .eq 1042, 3) := by decide +kernel
theorem dL_309 : decode code 309 = .ok (.iconst 0, 1) := by decide +kernel
theorem dL_310 : decode code 310 = .ok (.ireturn, 1) := by decide +kernel
theorem dL_311 : decode code 311 = .ok (.aload_n 1, 1) := by decide +kernel
theorem dL_312 : decode code 312 = .ok (.aload_n 0, 1) := by decide +kernel
theorem dL_313 : decode code 313 = .ok (.iload_n 3, 1) := by decide +kernel
theorem dL_314 : decode code 314 = .ok (.iconst 1, 1) := by decide +kernel
theorem dL_315 : decode code 315 = .ok (.iadd, 1) := by decide +kernel
theorem dL_316 : decode code 316 = .ok (.iaload, 1) := by decide +kernel
theorem dL_317 : decode code 317 = .ok (.aload_n 0, 1) := by decide +kernel
theorem dL_318 : decode code 318 = .ok (.iload_n 3, 1) := by decide +kernel
theorem dL_319 : decode code 319 = .ok (.iconst 2, 1) := by decide +kernel
theorem dL_320 : decode code 320 = .ok (.iadd, 1) := by decide +kernel
theorem dL_321 : decode code 321 = .ok (.iaload, 1) := by decide +kernel
theorem dL_322 : decode code 322 = .ok (.aload_n 0, 1) := by decide +kernel
theorem dL_323 : decode code 323 = .ok (.iload_n 3, 1) := by decide +kernel
theorem dL_324 : decode code 324 = .ok (.iconst 3, 1) := by decide +kernel
theorem dL_325 : decode code 325 = .ok (.iadd, 1) := by decide +kernel
theorem dL_326 : decode code 326 = .ok (.iaload, 1) := by decide +kernel
theorem dL_327 : decode code 327 = .ok (.invokevirtual 28, 3) := by decide +kernel
theorem dL_330 : decode code 330 = .ok (.aload_n 2, 1) := by decide +kernel
theorem dL_331 : decode code 331 = .ok (.aload_n 0, 1) := by decide +kernel
theorem dL_332 : decode code 332 = .ok (.iload_n 3, 1) := by decide +kernel
theorem dL_333 : decode code 333 = .ok (.iconst 1, 1) := by decide +kernel
theorem dL_334 : decode code 334 = .ok (.iadd, 1) := by decide +kernel
theorem dL_335 : decode code 335 = .ok (.iaload, 1) := by decide +kernel
theorem dL_336 : decode code 336 = .ok (.aload_n 0, 1) := by decide +kernel
theorem dL_337 : decode code 337 = .ok (.iload_n 3, 1) := by decide +kernel
theorem dL_338 : decode code 338 = .ok (.iconst 2, 1) := by decide +kernel
theorem dL_339 : decode code 339 = .ok (.iadd, 1) := by decide +kernel
theorem dL_340 : decode code 340 = .ok (.iaload, 1) := by decide +kernel
theorem dL_341 : decode code 341 = .ok (.aload_n 0, 1) := by decide +kernel
theorem dL_342 : decode code 342 = .ok (.iload_n 3, 1) := by decide +kernel
theorem dL_343 : decode code 343 = .ok (.iconst 3, 1) := by decide +kernel
theorem dL_344 : decode code 344 = .ok (.iadd, 1) := by decide +kernel
theorem dL_345 : decode code 345 = .ok (.iaload, 1) := by decide +kernel
theorem dL_346 : decode code 346 = .ok (.invokevirtual 32, 3) := by decide +kernel
theorem dL_349 : decode code 349 = .ok (.if_icmp .eq 999, 3) := by decide +kernel
theorem dL_352 : decode code 352 = .ok (.iconst 0, 1) := by decide +kernel
theorem dL_353 : decode code 353 = .ok (.ireturn, 1) := by decide +kernel
theorem dL_354 : decode code 354 = .ok (.aload_n 1, 1) := by decide +kernel
theorem dL_355 : decode code 355 = .ok (.aload_n 0, 1) := by decide +kernel
theorem dL_356 : decode code 356 = .ok (.iload_n 3, 1) := by decide +kernel
theorem dL_357 : decode code 357 = .ok (.iconst 1, 1) := by decide +kernel
theorem dL_358 : decode code 358 = .ok (.iadd, 1) := by decide +kernel
theorem dL_359 : decode code 359 = .ok (.iaload, 1) := by decide +kernel
theorem dL_360 : decode code 360 = .ok (.invokevirtual 33, 3) := by decide +kernel
theorem dL_363 : decode code 363 = .ok (.aload_n 2, 1) := by decide +kernel
theorem dL_364 : decode code 364 = .ok (.aload_n 0, 1) := by decide +kernel
theorem dL_365 : decode code 365 = .ok (.iload_n 3, 1) := by decide +kernel
theorem dL_366 : decode code 366 = .ok (.iconst 1, 1) := by decide +kernel
theorem dL_367 : decode code 367 = .ok (.iadd, 1) := by decide +kernel
theorem dL_368 : decode code 368 = .ok (.iaload, 1) := by decide +kernel
theorem dL_369 : decode code 369 = .ok (.invokevirtual 36, 3) := by decide +kernel
theorem dL_372 : decode code 372 = .ok (.if_icmp .eq 976, 3) := by decide +kernel
theorem dL_375 : decode code 375 = .ok (.iconst 0, 1) := by decide +kernel
theorem dL_376 : decode code 376 = .ok (.ireturn, 1) := by decide +kernel
theorem dL_377 : decode code 377 = .ok (.aload_n 1, 1) := by decide +kernel
theorem dL_378 : decode code 378 = .ok (.aload_n 0, 1) := by decide +kernel
theorem dL_379 : decode code 379 = .ok (.iload_n 3, 1) := by decide +kernel
theorem dL_380 : decode code 380 = .ok (.iconst 1, 1) := by decide +kernel
theorem dL_381 : decode code 381 = .ok (.iadd, 1) := by decide +kernel
theorem dL_382 : decode code 382 = .ok (.iaload, 1) := by decide +kernel
theorem dL_383 : decode code 383 = .ok (.invokevirtual 37, 3) := by decide +kernel
theorem dL_386 : decode code 386 = .ok (.aload_n 2, 1) := by decide +kernel
theorem dL_387 : decode code 387 = .ok (.aload_n 0, 1) := by decide +kernel
theorem dL_388 : decode code 388 = .ok (.iload_n 3, 1) := by decide +kernel
theorem dL_389 : decode code 389 = .ok (.iconst 1, 1) := by decide +kernel
theorem dL_390 : decode code 390 = .ok (.iadd, 1) := by decide +kernel
theorem dL_391 : decode code 391 = .ok (.iaload, 1) := by decide +kernel
theorem dL_392 : decode code 392 = .ok (.invokevirtual 40, 3) := by decide +kernel
theorem dL_395 : decode code 395 = .ok (.if_icmp .eq 953, 3) := by decide +kernel
theorem dL_398 : decode code 398 = .ok (.iconst 0, 1) := by decide +kernel
theorem dL_399 : decode code 399 = .ok (.ireturn, 1) := by decide +kernel
theorem dL_400 : decode code 400 = .ok (.aload_n 1, 1) := by decide +kernel
theorem dL_401 : decode code 401 = .ok (.aload_n 0, 1) := by decide +kernel
theorem dL_402 : decode code 402 = .ok (.iload_n 3, 1) := by decide +kernel
theorem dL_403 : decode code 403 = .ok (.iconst 1, 1) := by decide +kernel
theorem dL_404 : decode code 404 = .ok (.iadd, 1) := by decide +kernel
theorem dL_405 : decode code 405 = .ok (.iaload, 1) := by decide +kernel
theorem dL_406 : decode code 406 = .ok (.invokevirtual 41, 3) := by decide +kernel
theorem dL_409 : decode code 409 = .ok (.aload_n 2, 1) := by decide +kernel
theorem dL_410 : decode code 410 = .ok (.aload_n 0, 1) := by decide +kernel
theorem dL_411 : decode code 411 = .ok (.iload_n 3, 1) := by decide +kernel
theorem dL_412 : decode code 412 = .ok (.iconst 1, 1) := by decide +kernel
theorem dL_413 : decode code 413 = .ok (.iadd, 1) := by decide +kernel
theorem dL_414 : decode code 414 = .ok (.iaload, 1) := by decide +kernel
theorem dL_415 : decode code 415 = .ok (.invokevirtual 44, 3) := by decide +kernel
theorem dL_418 : decode code 418 = .ok (.if_icmp .eq 930, 3) := by decide +kernel
theorem dL_421 : decode code 421 = .ok (.iconst 0, 1) := by decide +kernel
theorem dL_422 : decode code 422 = .ok (.ireturn, 1) := by decide +kernel
theorem dL_423 : decode code 423 = .ok (.aload_n 1, 1) := by decide +kernel
theorem dL_424 : decode code 424 = .ok (.aload_n 0, 1) := by decide +kernel
theorem dL_425 : decode code 425 = .ok (.iload_n 3, 1) := by decide +kernel
theorem dL_426 : decode code 426 = .ok (.iconst 1, 1) := by decide +kernel
theorem dL_427 : decode code 427 = .ok (.iadd, 1) := by decide +kernel
theorem dL_428 : decode code 428 = .ok (.iaload, 1) := by decide +kernel
theorem dL_429 : decode code 429 = .ok (.invokevirtual 45, 3) := by decide +kernel
theorem dL_432 : decode code 432 = .ok (.aload_n 2, 1) := by decide +kernel
theorem dL_433 : decode code 433 = .ok (.aload_n 0, 1) := by decide +kernel
theorem dL_434 : decode code 434 = .ok (.iload_n 3, 1) := by decide +kernel
theorem dL_435 : decode code 435 = .ok (.iconst 1, 1) := by decide +kernel
theorem dL_436 : decode code 436 = .ok (.iadd, 1) := by decide +kernel
theorem dL_437 : decode code 437 = .ok (.iaload, 1) := by decide +kernel
theorem dL_438 : decode code 438 = .ok (.invokevirtual 48, 3) := by decide +kernel
theorem dL_441 : decode code 441 = .ok (.if_icmp .eq 907, 3) := by decide +kernel
theorem dL_444 : decode code 444 = .ok (.iconst 0, 1) := by decide +kernel
theorem dL_445 : decode code 445 = .ok (.ireturn, 1) := by decide +kernel
theorem dL_446 : decode code 446 = .ok (.aload_n 1, 1) := by decide +kernel
theorem dL_447 : decode code 447 = .ok (.invokevirtual 49, 3) := by decide +kernel
theorem dL_450 : decode code 450 = .ok (.aload_n 2, 1) := by decide +kernel
theorem dL_451 : decode code 451 = .ok (.invokevirtual 52, 3) := by decide +kernel
theorem dL_454 : decode code 454 = .ok (.if_icmp .eq 894, 3) := by decide +kernel
theorem dL_457 : decode code 457 = .ok (.iconst 0, 1) := by decide +kernel
theorem dL_458 : decode code 458 = .ok (.ireturn, 1) := by decide +kernel
theorem dL_459 : decode code 459 = .ok (.aload_n 1, 1) := by decide +kernel
theorem dL_460 : decode code 460 = .ok (.aload_n 0, 1) := by decide +kernel
theorem dL_461 : decode code 461 = .ok (.iload_n 3, 1) := by decide +kernel
theorem dL_462 : decode code 462 = .ok (.iconst 1, 1) := by decide +kernel
theorem dL_463 : decode code 463 = .ok (.iadd, 1) := by decide +kernel
theorem dL_464 : decode code 464 = .ok (.iaload, 1) := by decide +kernel
theorem dL_465 : decode code 465 = .ok (.aload_n 0, 1) := by decide +kernel
theorem dL_466 : decode code 466 = .ok (.iload_n 3, 1) := by decide +kernel
theorem dL_467 : decode code 467 = .ok (.iconst 2, 1) := by decide +kernel
theorem dL_468 : decode code 468 = .ok (.iadd, 1) := by decide +kernel
theorem dL_469 : decode code 469 = .ok (.iaload, 1) := by decide +kernel
theorem dL_470 : decode code 470 = .ok (.invokevirtual 53, 3) := by decide +kernel
theorem dL_473 : decode code 473 = .ok (.aload_n 2, 1) := by decide +kernel
theorem dL_474 : decode code 474 = .ok (.aload_n 0, 1) := by decide +kernel
theorem dL_475 : decode code 475 = .ok (.iload_n 3, 1) := by decide +kernel
theorem dL_476 : decode code 476 = .ok (.iconst 1, 1) := by decide +kernel
theorem dL_477 : decode code 477 = .ok (.iadd, 1) := by decide +kernel
theorem dL_478 : decode code 478 = .ok (.iaload, 1) := by decide +kernel
theorem dL_479 : decode code 479 = .ok (.aload_n 0, 1) := by decide +kernel
theorem dL_480 : decode code 480 = .ok (.iload_n 3, 1) := by decide +kernel
theorem dL_481 : decode code 481 = .ok (.iconst 2, 1) := by decide +kernel
theorem dL_482 : decode code 482 = .ok (.iadd, 1) := by decide +kernel
theorem dL_483 : decode code 483 = .ok (.iaload, 1) := by decide +kernel
theorem dL_484 : decode code 484 = .ok (.invokevirtual 57, 3) := by decide +kernel
theorem dL_487 : decode code 487 = .ok (.if_icmp .eq 861, 3) := by decide +kernel
theorem dL_490 : decode code 490 = .ok (.iconst 0, 1) := by decide +kernel
theorem dL_491 : decode code 491 = .ok (.ireturn, 1) := by decide +kernel
theorem dL_492 : decode code 492 = .ok (.aload_n 1, 1) := by decide +kernel
theorem dL_493 : decode code 493 = .ok (.aload_n 0, 1) := by decide +kernel
theorem dL_494 : decode code 494 = .ok (.iload_n 3, 1) := by decide +kernel
theorem dL_495 : decode code 495 = .ok (.iconst 1, 1) := by decide +kernel
theorem dL_496 : decode code 496 = .ok (.iadd, 1) := by decide +kernel
theorem dL_497 : decode code 497 = .ok (.iaload, 1) := by decide +kernel
theorem dL_498 : decode code 498 = .ok (.aload_n 0, 1) := by decide +kernel
theorem dL_499 : decode code 499 = .ok (.iload_n 3, 1) := by decide +kernel
theorem dL_500 : decode code 500 = .ok (.iconst 2, 1) := by decide +kernel
theorem dL_501 : decode code 501 = .ok (.iadd, 1) := by decide +kernel
theorem dL_502 : decode code 502 = .ok (.iaload, 1) := by decide +kernel
theorem dL_503 : decode code 503 = .ok (.invokevirtual 58, 3) := by decide +kernel
theorem dL_506 : decode code 506 = .ok (.aload_n 2, 1) := by decide +kernel
theorem dL_507 : decode code 507 = .ok (.aload_n 0, 1) := by decide +kernel
theorem dL_508 : decode code 508 = .ok (.iload_n 3, 1) := by decide +kernel
theorem dL_509 : decode code 509 = .ok (.iconst 1, 1) := by decide +kernel
theorem dL_510 : decode code 510 = .ok (.iadd, 1) := by decide +kernel
theorem dL_511 : decode code 511 = .ok (.iaload, 1) := by decide +kernel
theorem dL_512 : decode code 512 = .ok (.aload_n 0, 1) := by decide +kernel
theorem dL_513 : decode code 513 = .ok (.iload_n 3, 1) := by decide +kernel
theorem dL_514 : decode code 514 = .ok (.iconst 2, 1) := by decide +kernel
theorem dL_515 : decode code 515 = .ok (.iadd, 1) := by decide +kernel
theorem dL_516 : decode code 516 = .ok (.iaload, 1) := by decide +kernel
theorem dL_517 : decode code 517 = .ok (.invokevirtual 61, 3) := by decide +kernel
theorem dL_520 : decode code 520 = .ok (.if_icmp .eq 828, 3) := by decide +kernel
theorem dL_523 : decode code 523 = .ok (.iconst 0, 1) := by decide +kernel
theorem dL_524 : decode code 524 = .ok (.ireturn, 1) := by decide +kernel
theorem dL_525 : decode code 525 = .ok (.aload_n 1, 1) := by decide +kernel
theorem dL_526 : decode code 526 = .ok (.invokevirtual 62, 3) := by decide +kernel
theorem dL_529 : decode code 529 = .ok (.aload_n 2, 1) := by decide +kernel
theorem dL_530 : decode code 530 = .ok (.invokevirtual 65, 3) := by decide +kernel
theorem dL_533 : decode code 533 = .ok (.if_icmp .eq 815, 3) := by decide +kernel
theorem dL_536 : decode code 536 = .ok (.iconst 0, 1) := by decide +kernel
theorem dL_537 : decode code 537 = .ok (.ireturn, 1) := by decide +kernel
theorem dL_538 : decode code 538 = .ok (.aload_n 1, 1) := by decide +kernel
theorem dL_539 : decode code 539 = .ok (.aload_n 0, 1) := by decide +kernel
theorem dL_540 : decode code 540 = .ok (.iload_n 3, 1) := by decide +kernel
theorem dL_541 : decode code 541 = .ok (.iconst 1, 1) := by decide +kernel
theorem dL_542 : decode code 542 = .ok (.iadd, 1) := by decide +kernel
theorem dL_543 : decode code 543 = .ok (.iaload, 1) := by decide +kernel
theorem dL_544 : decode code 544 = .ok (.invokevirtual 66, 3) := by decide +kernel
theorem dL_547 : decode code 547 = .ok (.aload_n 2, 1) := by decide +kernel
theorem dL_548 : decode code 548 = .ok (.aload_n 0, 1) := by decide +kernel
theorem dL_549 : decode code 549 = .ok (.iload_n 3, 1) := by decide +kernel
theorem dL_550 : decode code 550 = .ok (.iconst 1, 1) := by decide +kernel
theorem dL_551 : decode code 551 = .ok (.iadd, 1) := by decide +kernel
theorem dL_552 : decode code 552 = .ok (.iaload, 1) := by decide +kernel
theorem dL_553 : decode code 553 = .ok (.invokevirtual 69, 3) := by decide +kernel
theorem dL_556 : decode code 556 = .ok (.if_icmp .eq 792, 3) := by decide +kernel
theorem dL_559 : decode code 559 = .ok (.iconst 0, 1) := by decide +kernel
theorem dL_560 : decode code 560 = .ok (.ireturn, 1) := by decide +kernel
theorem dL_561 : decode code 561 = .ok (.aload_n 1, 1) := by decide +kernel
theorem dL_562 : decode code 562 = .ok (.aload_n 0, 1) := by decide +kernel
theorem dL_563 : decode code 563 = .ok (.iload_n 3, 1) := by decide +kernel
theorem dL_564 : decode code 564 = .ok (.iconst 1, 1) := by decide +kernel
theorem dL_565 : decode code 565 = .ok (.iadd, 1) := by decide +kernel
theorem dL_566 : decode code 566 = .ok (.iaload, 1) := by decide +kernel
theorem dL_567 : decode code 567 = .ok (.invokevirtual 70, 3) := by decide +kernel
theorem dL_570 : decode code 570 = .ok (.aload_n 2, 1) := by decide +kernel
theorem dL_571 : decode code 571 = .ok (.aload_n 0, 1) := by decide +kernel
theorem dL_572 : decode code 572 = .ok (.iload_n 3, 1) := by decide +kernel
theorem dL_573 : decode code 573 = .ok (.iconst 1, 1) := by decide +kernel
theorem dL_574 : decode code 574 = .ok (.iadd, 1) := by decide +kernel
theorem dL_575 : decode code 575 = .ok (.iaload, 1) := by decide +kernel
theorem dL_576 : decode code 576 = .ok (.invokevirtual 73, 3) := by decide +kernel
theorem dL_579 : decode code 579 = .ok (.if_icmp .eq 769, 3) := by decide +kernel
theorem dL_582 : decode code 582 = .ok (.iconst 0, 1) := by decide +kernel
theorem dL_583 : decode code 583 = .ok (.ireturn, 1) := by decide +kernel
theorem dL_584 : decode code 584 = .ok (.aload_n 1, 1) := by decide +kernel
theorem dL_585 : decode code 585 = .ok (.aload_n 0, 1) := by decide +kernel
theorem dL_586 : decode code 586 = .ok (.iload_n 3, 1) := by decide +kernel
theorem dL_587 : decode code 587 = .ok (.iconst 1, 1) := by decide +kernel
theorem dL_588 : decode code 588 = .ok (.iadd, 1) := by decide +kernel
theorem dL_589 : decode code 589 = .ok (.iaload, 1) := by decide +kernel
theorem dL_590 : decode code 590 = .ok (.aload_n 0, 1) := by decide +kernel
theorem dL_591 : decode code 591 = .ok (.iload_n 3, 1) := by decide +kernel
theorem dL_592 : decode code 592 = .ok (.iconst 2, 1) := by decide +kernel
theorem dL_593 : decode code 593 = .ok (.iadd, 1) := by decide +kernel
theorem dL_594 : decode code 594 = .ok (.iaload, 1) := by decide +kernel
theorem dL_595 : decode code 595 = .ok (.invokevirtual 74, 3) := by decide +kernel
theorem dL_598 : decode code 598 = .ok (.aload_n 2, 1) := by decide +kernel
theorem dL_599 : decode code 599 = .ok (.aload_n 0, 1) := by decide +kernel
theorem dL_600 : decode code 600 = .ok (.iload_n 3, 1) := by decide +kernel
theorem dL_601 : decode code 601 = .ok (.iconst 1, 1) := by decide +kernel
theorem dL_602 : decode code 602 = .ok (.iadd, 1) := by decide +kernel
theorem dL_603 : decode code 603 = .ok (.iaload, 1) := by decide +kernel
theorem dL_604 : decode code 604 = .ok (.aload_n 0, 1) := by decide +kernel
theorem dL_605 : decode code 605 = .ok (.iload_n 3, 1) := by decide +kernel
theorem dL_606 : decode code 606 = .ok (.iconst 2, 1) := by decide +kernel
theorem dL_607 : decode code 607 = .ok (.iadd, 1) := by decide +kernel
theorem dL_608 : decode code 608 = .ok (.iaload, 1) := by decide +kernel
theorem dL_609 : decode code 609 = .ok (.invokevirtual 77, 3) := by decide +kernel
theorem dL_612 : decode code 612 = .ok (.if_icmp .eq 736, 3) := by decide +kernel
theorem dL_615 : decode code 615 = .ok (.iconst 0, 1) := by decide +kernel
theorem dL_616 : decode code 616 = .ok (.ireturn, 1) := by decide +kernel
theorem dL_617 : decode code 617 = .ok (.aload_n 1, 1) := by decide +kernel
theorem dL_618 : decode code 618 = .ok (.aload_n 0, 1) := by decide +kernel
theorem dL_619 : decode code 619 = .ok (.iload_n 3, 1) := by decide +kernel
theorem dL_620 : decode code 620 = .ok (.iconst 1, 1) := by decide +kernel
theorem dL_621 : decode code 621 = .ok (.iadd, 1) := by decide +kernel
theorem dL_622 : decode code 622 = .ok (.iaload, 1) := by decide +kernel
theorem dL_623 : decode code 623 = .ok (.invokevirtual 78, 3) := by decide +kernel
theorem dL_626 : decode code 626 = .ok (.aload_n 2, 1) := by decide +kernel
theorem dL_627 : decode code 627 = .ok (.aload_n 0, 1) := by decide +kernel
theorem dL_628 : decode code 628 = .ok (.iload_n 3, 1) := by decide +kernel
theorem dL_629 : decode code 629 = .ok (.iconst 1, 1) := by decide +kernel
theorem dL_630 : decode code 630 = .ok (.iadd, 1) := by decide +kernel
theorem dL_631 : decode code 631 = .ok (.iaload, 1) := by decide +kernel
theorem dL_632 : decode code 632 = .ok (.invokevirtual 81, 3) := by decide +kernel
theorem dL_635 : decode code 635 = .ok (.if_icmp .eq 713, 3) := by decide +kernel
theorem dL_638 : decode code 638 = .ok (.iconst 0, 1) := by decide +kernel
theorem dL_639 : decode code 639 = .ok (.ireturn, 1) := by decide +kernel
theorem dL_640 : decode code 640 = .ok (.aload_n 1, 1) := by decide +kernel
theorem dL_641 : decode code 641 = .ok (.aload_n 0, 1) := by decide +kernel
theorem dL_642 : decode code 642 = .ok (.iload_n 3, 1) := by decide +kernel
theorem dL_643 : decode code 643 = .ok (.iconst 1, 1) := by decide +kernel
theorem dL_644 : decode code 644 = .ok (.iadd, 1) := by decide +kernel
theorem dL_645 : decode code 645 = .ok (.iaload, 1) := by decide +kernel
theorem dL_646 : decode code 646 = .ok (.aload_n 0, 1) := by decide +kernel
theorem dL_647 : decode code 647 = .ok (.iload_n 3, 1) := by decide +kernel
theorem dL_648 : decode code 648 = .ok (.iconst 2, 1) := by decide +kernel
theorem dL_649 : decode code 649 = .ok (.iadd, 1) := by decide +kernel
theorem dL_650 : decode code 650 = .ok (.iaload, 1) := by decide +kernel
theorem dL_651 : decode code 651 = .ok (.invokevirtual 82, 3) := by decide +kernel
theorem dL_654 : decode code 654 = .ok (.aload_n 2, 1) := by decide +kernel
theorem dL_655 : decode code 655 = .ok (.aload_n 0, 1) := by decide +kernel
theorem dL_656 : decode code 656 = .ok (.iload_n 3, 1) := by decide +kernel
theorem dL_657 : decode code 657 = .ok (.iconst 1, 1) := by decide +kernel
theorem dL_658 : decode code 658 = .ok (.iadd, 1) := by decide +kernel
theorem dL_659 : decode code 659 = .ok (.iaload, 1) := by decide +kernel
theorem dL_660 : decode code 660 = .ok (.aload_n 0, 1) := by decide +kernel
theorem dL_661 : decode code 661 = .ok (.iload_n 3, 1) := by decide +kernel
theorem dL_662 : decode code 662 = .ok (.iconst 2, 1) := by decide +kernel
theorem dL_663 : decode code 663 = .ok (.iadd, 1) := by decide +kernel
theorem dL_664 : decode code 664 = .ok (.iaload, 1) := by decide +kernel
theorem dL_665 : decode code 665 = .ok (.invokevirtual 85, 3) := by decide +kernel
theorem dL_668 : decode code 668 = .ok (.if_icmp .eq 680, 3) := by decide +kernel
theorem dL_671 : decode code 671 = .ok (.iconst 0, 1) := by decide +kernel
theorem dL_672 : decode code 672 = .ok (.ireturn, 1) := by decide +kernel
theorem dL_673 : decode code 673 = .ok (.aload_n 1, 1) := by decide +kernel
theorem dL_674 : decode code 674 = .ok (.aload_n 0, 1) := by decide +kernel
theorem dL_675 : decode code 675 = .ok (.iload_n 3, 1) := by decide +kernel
theorem dL_676 : decode code 676 = .ok (.iconst 1, 1) := by decide +kernel
theorem dL_677 : decode code 677 = .ok (.iadd, 1) := by decide +kernel
theorem dL_678 : decode code 678 = .ok (.iaload, 1) := by decide +kernel
theorem dL_679 : decode code 679 = .ok (.aload_n 0, 1) := by decide +kernel
theorem dL_680 : decode code 680 = .ok (.iload_n 3, 1) := by decide +kernel
theorem dL_681 : decode code 681 = .ok (.iconst 2, 1) := by decide +kernel
theorem dL_682 : decode code 682 = .ok (.iadd, 1) := by decide +kernel
theorem dL_683 : decode code 683 = .ok (.iaload, 1) := by decide +kernel
theorem dL_684 : decode code 684 = .ok (.invokevirtual 86, 3) := by decide +kernel
theorem dL_687 : decode code 687 = .ok (.aload_n 2, 1) := by decide +kernel
theorem dL_688 : decode code 688 = .ok (.aload_n 0, 1) := by decide +kernel
theorem dL_689 : decode code 689 = .ok (.iload_n 3, 1) := by decide +kernel
theorem dL_690 : decode code 690 = .ok (.iconst 1, 1) := by decide +kernel
theorem dL_691 : decode code 691 = .ok (.iadd, 1) := by decide +kernel
theorem dL_692 : decode code 692 = .ok (.iaload, 1) := by decide +kernel
theorem dL_693 : decode code 693 = .ok (.aload_n 0, 1) := by decide +kernel
theorem dL_694 : decode code 694 = .ok (.iload_n 3, 1) := by decide +kernel
theorem dL_695 : decode code 695 = .ok (.iconst 2, 1) := by decide +kernel
theorem dL_696 : decode code 696 = .ok (.iadd, 1) := by decide +kernel
theorem dL_697 : decode code 697 = .ok (.iaload, 1) := by decide +kernel
theorem dL_698 : decode code 698 = .ok (.invokevirtual 89, 3) := by decide +kernel
theorem dL_701 : decode code 701 = .ok (.if_icmp .eq 647, 3) := by decide +kernel
theorem dL_704 : decode code 704 = .ok (.iconst 0, 1) := by decide +kernel
theorem dL_705 : decode code 705 = .ok (.ireturn, 1) := by decide +kernel
theorem dL_706 : decode code 706 = .ok (.aload_n 1, 1) := by decide +kernel
theorem dL_707 : decode code 707 = .ok (.aload_n 0, 1) := by decide +kernel
theorem dL_708 : decode code 708 = .ok (.iload_n 3, 1) := by decide +kernel
theorem dL_709 : decode code 709 = .ok (.iconst 1, 1) := by decide +kernel
theorem dL_710 : decode code 710 = .ok (.iadd, 1) := by decide +kernel
theorem dL_711 : decode code 711 = .ok (.iaload, 1) := by decide +kernel
theorem dL_712 : decode code 712 = .ok (.invokevirtual 90, 3) := by decide +kernel
theorem dL_715 : decode code 715 = .ok (.aload_n 2, 1) := by decide +kernel
theorem dL_716 : decode code 716 = .ok (.aload_n 0, 1) := by decide +kernel
theorem dL_717 : decode code 717 = .ok (.iload_n 3, 1) := by decide +kernel
theorem dL_718 : decode code 718 = .ok (.iconst 1, 1) := by decide +kernel
theorem dL_719 : decode code 719 = .ok (.iadd, 1) := by decide +kernel
theorem dL_720 : decode code 720 = .ok (.iaload, 1) := by decide +kernel
theorem dL_721 : decode code 721 = .ok (.invokevirtual 94, 3) := by decide +kernel
theorem dL_724 : decode code 724 = .ok (.lcmp, 1) := by decide +kernel
theorem dL_725 : decode code 725 = .ok (.ifCond .eq 623, 3) := by decide +kernel
theorem dL_728 : decode code 728 = .ok (.iconst 0, 1) := by decide +kernel
theorem dL_729 : decode code 729 = .ok (.ireturn, 1) := by decide +kernel
theorem dL_730 : decode code 730 = .ok (.aload_n 1, 1) := by decide +kernel
theorem dL_731 : decode code 731 = .ok (.aload_n 0, 1) := by decide +kernel
theorem dL_732 : decode code 732 = .ok (.iload_n 3, 1) := by decide +kernel
theorem dL_733 : decode code 733 = .ok (.iconst 1, 1) := by decide +kernel
theorem dL_734 : decode code 734 = .ok (.iadd, 1) := by decide +kernel
theorem dL_735 : decode code 735 = .ok (.iaload, 1) := by decide +kernel
theorem dL_736 : decode code 736 = .ok (.invokevirtual 95, 3) := by decide +kernel
theorem dL_739 : decode code 739 = .ok (.aload_n 2, 1) := by decide +kernel
theorem dL_740 : decode code 740 = .ok (.aload_n 0, 1) := by decide +kernel
theorem dL_741 : decode code 741 = .ok (.iload_n 3, 1) := by decide +kernel
theorem dL_742 : decode code 742 = .ok (.iconst 1, 1) := by decide +kernel
theorem dL_743 : decode code 743 = .ok (.iadd, 1) := by decide +kernel
theorem dL_744 : decode code 744 = .ok (.iaload, 1) := by decide +kernel
theorem dL_745 : decode code 745 = .ok (.invokevirtual 98, 3) := by decide +kernel
theorem dL_748 : decode code 748 = .ok (.if_icmp .eq 600, 3) := by decide +kernel
theorem dL_751 : decode code 751 = .ok (.iconst 0, 1) := by decide +kernel
theorem dL_752 : decode code 752 = .ok (.ireturn, 1) := by decide +kernel
theorem dL_753 : decode code 753 = .ok (.aload_n 1, 1) := by decide +kernel
theorem dL_754 : decode code 754 = .ok (.aload_n 0, 1) := by decide +kernel
theorem dL_755 : decode code 755 = .ok (.iload_n 3, 1) := by decide +kernel
theorem dL_756 : decode code 756 = .ok (.iconst 1, 1) := by decide +kernel
theorem dL_757 : decode code 757 = .ok (.iadd, 1) := by decide +kernel
theorem dL_758 : decode code 758 = .ok (.iaload, 1) := by decide +kernel
theorem dL_759 : decode code 759 = .ok (.invokevirtual 99, 3) := by decide +kernel
theorem dL_762 : decode code 762 = .ok (.aload_n 2, 1) := by decide +kernel
theorem dL_763 : decode code 763 = .ok (.aload_n 0, 1) := by decide +kernel
theorem dL_764 : decode code 764 = .ok (.iload_n 3, 1) := by decide +kernel
theorem dL_765 : decode code 765 = .ok (.iconst 1, 1) := by decide +kernel
theorem dL_766 : decode code 766 = .ok (.iadd, 1) := by decide +kernel
theorem dL_767 : decode code 767 = .ok (.iaload, 1) := by decide +kernel
theorem dL_768 : decode code 768 = .ok (.invokevirtual 102, 3) := by decide +kernel
theorem dL_771 : decode code 771 = .ok (.if_icmp .eq 577, 3) := by decide +kernel
theorem dL_774 : decode code 774 = .ok (.iconst 0, 1) := by decide +kernel
theorem dL_775 : decode code 775 = .ok (.ireturn, 1) := by decide +kernel
theorem dL_776 : decode code 776 = .ok (.aload_n 1, 1) := by decide +kernel
theorem dL_777 : decode code 777 = .ok (.aload_n 0, 1) := by decide +kernel
theorem dL_778 : decode code 778 = .ok (.iload_n 3, 1) := by decide +kernel
theorem dL_779 : decode code 779 = .ok (.iconst 1, 1) := by decide +kernel
theorem dL_780 : decode code 780 = .ok (.iadd, 1) := by decide +kernel
theorem dL_781 : decode code 781 = .ok (.iaload, 1) := by decide +kernel
theorem dL_782 : decode code 782 = .ok (.aload_n 0, 1) := by decide +kernel
theorem dL_783 : decode code 783 = .ok (.iload_n 3, 1) := by decide +kernel
theorem dL_784 : decode code 784 = .ok (.iconst 2, 1) := by decide +kernel
theorem dL_785 : decode code 785 = .ok (.iadd, 1) := by decide +kernel
theorem dL_786 : decode code 786 = .ok (.iaload, 1) := by decide +kernel
theorem dL_787 : decode code 787 = .ok (.invokevirtual 103, 3) := by decide +kernel
theorem dL_790 : decode code 790 = .ok (.aload_n 2, 1) := by decide +kernel
theorem dL_791 : decode code 791 = .ok (.aload_n 0, 1) := by decide +kernel
theorem dL_792 : decode code 792 = .ok (.iload_n 3, 1) := by decide +kernel
theorem dL_793 : decode code 793 = .ok (.iconst 1, 1) := by decide +kernel
theorem dL_794 : decode code 794 = .ok (.iadd, 1) := by decide +kernel
theorem dL_795 : decode code 795 = .ok (.iaload, 1) := by decide +kernel
theorem dL_796 : decode code 796 = .ok (.aload_n 0, 1) := by decide +kernel
theorem dL_797 : decode code 797 = .ok (.iload_n 3, 1) := by decide +kernel
theorem dL_798 : decode code 798 = .ok (.iconst 2, 1) := by decide +kernel
theorem dL_799 : decode code 799 = .ok (.iadd, 1) := by decide +kernel
theorem dL_800 : decode code 800 = .ok (.iaload, 1) := by decide +kernel
theorem dL_801 : decode code 801 = .ok (.invokevirtual 106, 3) := by decide +kernel
theorem dL_804 : decode code 804 = .ok (.if_icmp .eq 544, 3) := by decide +kernel
theorem dL_807 : decode code 807 = .ok (.iconst 0, 1) := by decide +kernel
theorem dL_808 : decode code 808 = .ok (.ireturn, 1) := by decide +kernel
theorem dL_809 : decode code 809 = .ok (.aload_n 1, 1) := by decide +kernel
theorem dL_810 : decode code 810 = .ok (.aload_n 0, 1) := by decide +kernel
theorem dL_811 : decode code 811 = .ok (.iload_n 3, 1) := by decide +kernel
theorem dL_812 : decode code 812 = .ok (.iconst 1, 1) := by decide +kernel
theorem dL_813 : decode code 813 = .ok (.iadd, 1) := by decide +kernel
theorem dL_814 : decode code 814 = .ok (.iaload, 1) := by decide +kernel
theorem dL_815 : decode code 815 = .ok (.aload_n 0, 1) := by decide +kernel
theorem dL_816 : decode code 816 = .ok (.iload_n 3, 1) := by decide +kernel
theorem dL_817 : decode code 817 = .ok (.iconst 2, 1) := by decide +kernel
theorem dL_818 : decode code 818 = .ok (.iadd, 1) := by decide +kernel
theorem dL_819 : decode code 819 = .ok (.iaload, 1) := by decide +kernel
theorem dL_820 : decode code 820 = .ok (.aload_n 0, 1) := by decide +kernel
theorem dL_821 : decode code 821 = .ok (.iload_n 3, 1) := by decide +kernel
theorem dL_822 : decode code 822 = .ok (.iconst 3, 1) := by decide +kernel
theorem dL_823 : decode code 823 = .ok (.iadd, 1) := by decide +kernel
theorem dL_824 : decode code 824 = .ok (.iaload, 1) := by decide +kernel
theorem dL_825 : decode code 825 = .ok (.invokevirtual 107, 3) := by decide +kernel
theorem dL_828 : decode code 828 = .ok (.aload_n 2, 1) := by decide +kernel
theorem dL_829 : decode code 829 = .ok (.aload_n 0, 1) := by decide +kernel
theorem dL_830 : decode code 830 = .ok (.iload_n 3, 1) := by decide +kernel
theorem dL_831 : decode code 831 = .ok (.iconst 1, 1) := by decide +kernel
theorem dL_832 : decode code 832 = .ok (.iadd, 1) := by decide +kernel
theorem dL_833 : decode code 833 = .ok (.iaload, 1) := by decide +kernel
theorem dL_834 : decode code 834 = .ok (.aload_n 0, 1) := by decide +kernel
theorem dL_835 : decode code 835 = .ok (.iload_n 3, 1) := by decide +kernel
theorem dL_836 : decode code 836 = .ok (.iconst 2, 1) := by decide +kernel
theorem dL_837 : decode code 837 = .ok (.iadd, 1) := by decide +kernel
theorem dL_838 : decode code 838 = .ok (.iaload, 1) := by decide +kernel
theorem dL_839 : decode code 839 = .ok (.aload_n 0, 1) := by decide +kernel
theorem dL_840 : decode code 840 = .ok (.iload_n 3, 1) := by decide +kernel
theorem dL_841 : decode code 841 = .ok (.iconst 3, 1) := by decide +kernel
theorem dL_842 : decode code 842 = .ok (.iadd, 1) := by decide +kernel
theorem dL_843 : decode code 843 = .ok (.iaload, 1) := by decide +kernel
theorem dL_844 : decode code 844 = .ok (.invokevirtual 110, 3) := by decide +kernel
theorem dL_847 : decode code 847 = .ok (.if_icmp .eq 501, 3) := by decide +kernel
theorem dL_850 : decode code 850 = .ok (.iconst 0, 1) := by decide +kernel
theorem dL_851 : decode code 851 = .ok (.ireturn, 1) := by decide +kernel
theorem dL_852 : decode code 852 = .ok (.aload_n 1, 1) := by decide +kernel
theorem dL_853 : decode code 853 = .ok (.aload_n 0, 1) := by decide +kernel
theorem dL_854 : decode code 854 = .ok (.iload_n 3, 1) := by decide +kernel
theorem dL_855 : decode code 855 = .ok (.iconst 1, 1) := by decide +kernel
theorem dL_856 : decode code 856 = .ok (.iadd, 1) := by decide +kernel
theorem dL_857 : decode code 857 = .ok (.iaload, 1) := by decide +kernel
theorem dL_858 : decode code 858 = .ok (.aload_n 0, 1) := by decide +kernel
theorem dL_859 : decode code 859 = .ok (.iload_n 3, 1) := by decide +kernel
theorem dL_860 : decode code 860 = .ok (.iconst 2, 1) := by decide +kernel
theorem dL_861 : decode code 861 = .ok (.iadd, 1) := by decide +kernel
theorem dL_862 : decode code 862 = .ok (.iaload, 1) := by decide +kernel
theorem dL_863 : decode code 863 = .ok (.aload_n 0, 1) := by decide +kernel
theorem dL_864 : decode code 864 = .ok (.iload_n 3, 1) := by decide +kernel
theorem dL_865 : decode code 865 = .ok (.iconst 3, 1) := by decide +kernel
theorem dL_866 : decode code 866 = .ok (.iadd, 1) := by decide +kernel
theorem dL_867 : decode code 867 = .ok (.iaload, 1) := by decide +kernel
theorem dL_868 : decode code 868 = .ok (.invokevirtual 111, 3) := by decide +kernel
theorem dL_871 : decode code 871 = .ok (.aload_n 2, 1) := by decide +kernel
theorem dL_872 : decode code 872 = .ok (.aload_n 0, 1) := by decide +kernel
theorem dL_873 : decode code 873 = .ok (.iload_n 3, 1) := by decide +kernel
theorem dL_874 : decode code 874 = .ok (.iconst 1, 1) := by decide +kernel
theorem dL_875 : decode code 875 = .ok (.iadd, 1) := by decide +kernel
theorem dL_876 : decode code 876 = .ok (.iaload, 1) := by decide +kernel
theorem dL_877 : decode code 877 = .ok (.aload_n 0, 1) := by decide +kernel
theorem dL_878 : decode code 878 = .ok (.iload_n 3, 1) := by decide +kernel
theorem dL_879 : decode code 879 = .ok (.iconst 2, 1) := by decide +kernel
theorem dL_880 : decode code 880 = .ok (.iadd, 1) := by decide +kernel
theorem dL_881 : decode code 881 = .ok (.iaload, 1) := by decide +kernel
theorem dL_882 : decode code 882 = .ok (.aload_n 0, 1) := by decide +kernel
theorem dL_883 : decode code 883 = .ok (.iload_n 3, 1) := by decide +kernel
theorem dL_884 : decode code 884 = .ok (.iconst 3, 1) := by decide +kernel
theorem dL_885 : decode code 885 = .ok (.iadd, 1) := by decide +kernel
theorem dL_886 : decode code 886 = .ok (.iaload, 1) := by decide +kernel
theorem dL_887 : decode code 887 = .ok (.invokevirtual 114, 3) := by decide +kernel
theorem dL_890 : decode code 890 = .ok (.if_icmp .eq 458, 3) := by decide +kernel
theorem dL_893 : decode code 893 = .ok (.iconst 0, 1) := by decide +kernel
theorem dL_894 : decode code 894 = .ok (.ireturn, 1) := by decide +kernel
theorem dL_895 : decode code 895 = .ok (.aload_n 1, 1) := by decide +kernel
theorem dL_896 : decode code 896 = .ok (.aload_n 0, 1) := by decide +kernel
theorem dL_897 : decode code 897 = .ok (.iload_n 3, 1) := by decide +kernel
theorem dL_898 : decode code 898 = .ok (.iconst 1, 1) := by decide +kernel
theorem dL_899 : decode code 899 = .ok (.iadd, 1) := by decide +kernel
theorem dL_900 : decode code 900 = .ok (.iaload, 1) := by decide +kernel
theorem dL_901 : decode code 901 = .ok (.invokevirtual 115, 3) := by decide +kernel
theorem dL_904 : decode code 904 = .ok (.aload_n 2, 1) := by decide +kernel
theorem dL_905 : decode code 905 = .ok (.aload_n 0, 1) := by decide +kernel
theorem dL_906 : decode code 906 = .ok (.iload_n 3, 1) := by decide +kernel
theorem dL_907 : decode code 907 = .ok (.iconst 1, 1) := by decide +kernel
theorem dL_908 : decode code 908 = .ok (.iadd, 1) := by decide +kernel
theorem dL_909 : decode code 909 = .ok (.iaload, 1) := by decide +kernel
theorem dL_910 : decode code 910 = .ok (.invokevirtual 118, 3) := by decide +kernel
theorem dL_913 : decode code 913 = .ok (.if_icmp .eq 435, 3) := by decide +kernel
theorem dL_916 : decode code 916 = .ok (.iconst 0, 1) := by decide +kernel
theorem dL_917 : decode code 917 = .ok (.ireturn, 1) := by decide +kernel
theorem dL_918 : decode code 918 = .ok (.aload_n 1, 1) := by decide +kernel
theorem dL_919 : decode code 919 = .ok (.aload_n 0, 1) := by decide +kernel
theorem dL_920 : decode code 920 = .ok (.iload_n 3, 1) := by decide +kernel
theorem dL_921 : decode code 921 = .ok (.iconst 1, 1) := by decide +kernel
theorem dL_922 : decode code 922 = .ok (.iadd, 1) := by decide +kernel
theorem dL_923 : decode code 923 = .ok (.iaload, 1) := by decide +kernel
theorem dL_924 : decode code 924 = .ok (.aload_n 0, 1) := by decide +kernel
theorem dL_925 : decode code 925 = .ok (.iload_n 3, 1) := by decide +kernel
theorem dL_926 : decode code 926 = .ok (.iconst 2, 1) := by decide +kernel
theorem dL_927 : decode code 927 = .ok (.iadd, 1) := by decide +kernel
theorem dL_928 : decode code 928 = .ok (.iaload, 1) := by decide +kernel
theorem dL_929 : decode code 929 = .ok (.invokevirtual 119, 3) := by decide +kernel
theorem dL_932 : decode code 932 = .ok (.aload_n 2, 1) := by decide +kernel
theorem dL_933 : decode code 933 = .ok (.aload_n 0, 1) := by decide +kernel
theorem dL_934 : decode code 934 = .ok (.iload_n 3, 1) := by decide +kernel
theorem dL_935 : decode code 935 = .ok (.iconst 1, 1) := by decide +kernel
theorem dL_936 : decode code 936 = .ok (.iadd, 1) := by decide +kernel
theorem dL_937 : decode code 937 = .ok (.iaload, 1) := by decide +kernel
theorem dL_938 : decode code 938 = .ok (.aload_n 0, 1) := by decide +kernel
theorem dL_939 : decode code 939 = .ok (.iload_n 3, 1) := by decide +kernel
theorem dL_940 : decode code 940 = .ok (.iconst 2, 1) := by decide +kernel
theorem dL_941 : decode code 941 = .ok (.iadd, 1) := by decide +kernel
theorem dL_942 : decode code 942 = .ok (.iaload, 1) := by decide +kernel
theorem dL_943 : decode code 943 = .ok (.invokevirtual 122, 3) := by decide +kernel
theorem dL_946 : decode code 946 = .ok (.if_icmp .eq 402, 3) := by decide +kernel
theorem dL_949 : decode code 949 = .ok (.iconst 0, 1) := by decide +kernel
theorem dL_950 : decode code 950 = .ok (.ireturn, 1) := by decide +kernel
theorem dL_951 : decode code 951 = .ok (.aload_n 1, 1) := by decide +kernel
theorem dL_952 : decode code 952 = .ok (.aload_n 0, 1) := by decide +kernel
theorem dL_953 : decode code 953 = .ok (.iload_n 3, 1) := by decide +kernel
theorem dL_954 : decode code 954 = .ok (.iconst 1, 1) := by decide +kernel
theorem dL_955 : decode code 955 = .ok (.iadd, 1) := by decide +kernel
theorem dL_956 : decode code 956 = .ok (.iaload, 1) := by decide +kernel
theorem dL_957 : decode code 957 = .ok (.invokevirtual 123, 3) := by decide +kernel
theorem dL_960 : decode code 960 = .ok (.aload_n 2, 1) := by decide +kernel
theorem dL_961 : decode code 961 = .ok (.aload_n 0, 1) := by decide +kernel
theorem dL_962 : decode code 962 = .ok (.iload_n 3, 1) := by decide +kernel
theorem dL_963 : decode code 963 = .ok (.iconst 1, 1) := by decide +kernel
theorem dL_964 : decode code 964 = .ok (.iadd, 1) := by decide +kernel
theorem dL_965 : decode code 965 = .ok (.iaload, 1) := by decide +kernel
theorem dL_966 : decode code 966 = .ok (.invokevirtual 126, 3) := by decide +kernel
theorem dL_969 : decode code 969 = .ok (.if_icmp .eq 379, 3) := by decide +kernel
theorem dL_972 : decode code 972 = .ok (.iconst 0, 1) := by decide +kernel
theorem dL_973 : decode code 973 = .ok (.ireturn, 1) := by decide +kernel
theorem dL_974 : decode code 974 = .ok (.aload_n 1, 1) := by decide +kernel
theorem dL_975 : decode code 975 = .ok (.aload_n 0, 1) := by decide +kernel
theorem dL_976 : decode code 976 = .ok (.iload_n 3, 1) := by decide +kernel
theorem dL_977 : decode code 977 = .ok (.iconst 1, 1) := by decide +kernel
theorem dL_978 : decode code 978 = .ok (.iadd, 1) := by decide +kernel
theorem dL_979 : decode code 979 = .ok (.iaload, 1) := by decide +kernel
theorem dL_980 : decode code 980 = .ok (.invokevirtual 127, 3) := by decide +kernel
theorem dL_983 : decode code 983 = .ok (.aload_n 2, 1) := by decide +kernel
theorem dL_984 : decode code 984 = .ok (.aload_n 0, 1) := by decide +kernel
theorem dL_985 : decode code 985 = .ok (.iload_n 3, 1) := by decide +kernel
theorem dL_986 : decode code 986 = .ok (.iconst 1, 1) := by decide +kernel
theorem dL_987 : decode code 987 = .ok (.iadd, 1) := by decide +kernel
theorem dL_988 : decode code 988 = .ok (.iaload, 1) := by decide +kernel
theorem dL_989 : decode code 989 = .ok (.invokevirtual 130, 3) := by decide +kernel
theorem dL_992 : decode code 992 = .ok (.if_icmp .eq 356, 3) := by decide +kernel
theorem dL_995 : decode code 995 = .ok (.iconst 0, 1) := by decide +kernel
theorem dL_996 : decode code 996 = .ok (.ireturn, 1) := by decide +kernel
theorem dL_997 : decode code 997 = .ok (.aload_n 1, 1) := by decide +kernel
theorem dL_998 : decode code 998 = .ok (.aload_n 0, 1) := by decide +kernel
theorem dL_999 : decode code 999 = .ok (.iload_n 3, 1) := by decide +kernel
theorem dL_1000 : decode code 1000 = .ok (.iconst 1, 1) := by decide +kernel
theorem dL_1001 : decode code 1001 = .ok (.iadd, 1) := by decide +kernel
theorem dL_1002 : decode code 1002 = .ok (.iaload, 1) := by decide +kernel
theorem dL_1003 : decode code 1003 = .ok (.invokevirtual 131, 3) := by decide +kernel
theorem dL_1006 : decode code 1006 = .ok (.aload_n 2, 1) := by decide +kernel
theorem dL_1007 : decode code 1007 = .ok (.aload_n 0, 1) := by decide +kernel
theorem dL_1008 : decode code 1008 = .ok (.iload_n 3, 1) := by decide +kernel
theorem dL_1009 : decode code 1009 = .ok (.iconst 1, 1) := by decide +kernel
theorem dL_1010 : decode code 1010 = .ok (.iadd, 1) := by decide +kernel
theorem dL_1011 : decode code 1011 = .ok (.iaload, 1) := by decide +kernel
theorem dL_1012 : decode code 1012 = .ok (.invokevirtual 134, 3) := by decide +kernel
theorem dL_1015 : decode code 1015 = .ok (.lcmp, 1) := by decide +kernel
theorem dL_1016 : decode code 1016 = .ok (.ifCond .eq 332, 3) := by decide +kernel
theorem dL_1019 : decode code 1019 = .ok (.iconst 0, 1) := by decide +kernel
theorem dL_1020 : decode code 1020 = .ok (.ireturn, 1) := by decide +kernel
theorem dL_1021 : decode code 1021 = .ok (.aload_n 1, 1) := by decide +kernel
theorem dL_1022 : decode code 1022 = .ok (.aload_n 0, 1) := by decide +kernel
theorem dL_1023 : decode code 1023 = .ok (.iload_n 3, 1) := by decide +kernel
theorem dL_1024 : decode code 1024 = .ok (.iconst 1, 1) := by decide +kernel
theorem dL_1025 : decode code 1025 = .ok (.iadd, 1) := by decide +kernel
theorem dL_1026 : decode code 1026 = .ok (.iaload, 1) := by decide +kernel
theorem dL_1027 : decode code 1027 = .ok (.aload_n 0, 1) := by decide +kernel
theorem dL_1028 : decode code 1028 = .ok (.iload_n 3, 1) := by decide +kernel
theorem dL_1029 : decode code 1029 = .ok (.iconst 2, 1) := by decide +kernel
theorem dL_1030 : decode code 1030 = .ok (.iadd, 1) := by decide +kernel
theorem dL_1031 : decode code 1031 = .ok (.iaload, 1) := by decide +kernel
theorem dL_1032 : decode code 1032 = .ok (.invokevirtual 135, 3) := by decide +kernel
theorem dL_1035 : decode code 1035 = .ok (.aload_n 2, 1) := by decide +kernel
theorem dL_1036 : decode code 1036 = .ok (.aload_n 0, 1) := by decide +kernel
theorem dL_1037 : decode code 1037 = .ok (.iload_n 3, 1) := by decide +kernel
theorem dL_1038 : decode code 1038 = .ok (.iconst 1, 1) := by decide +kernel
theorem dL_1039 : decode code 1039 = .ok (.iadd, 1) := by decide +kernel
theorem dL_1040 : decode code 1040 = .ok (.iaload, 1) := by decide +kernel
theorem dL_1041 : decode code 1041 = .ok (.aload_n 0, 1) := by decide +kernel
theorem dL_1042 : decode code 1042 = .ok (.iload_n 3, 1) := by decide +kernel
theorem dL_1043 : decode code 1043 = .ok (.iconst 2, 1) := by decide +kernel
theorem dL_1044 : decode code 1044 = .ok (.iadd, 1) := by decide +kernel
theorem dL_1045 : decode code 1045 = .ok (.iaload, 1) := by decide +kernel
theorem dL_1046 : decode code 1046 = .ok (.invokevirtual 138, 3) := by decide +kernel
theorem dL_1049 : decode code 1049 = .ok (.if_icmp .eq 299, 3) := by decide +kernel
theorem dL_1052 : decode code 1052 = .ok (.iconst 0, 1) := by decide +kernel
theorem dL_1053 : decode code 1053 = .ok (.ireturn, 1) := by decide +kernel
theorem dL_1054 : decode code 1054 = .ok (.aload_n 1, 1) := by decide +kernel
theorem dL_1055 : decode code 1055 = .ok (.aload_n 0, 1) := by decide +kernel
theorem dL_1056 : decode code 1056 = .ok (.iload_n 3, 1) := by decide +kernel
theorem dL_1057 : decode code 1057 = .ok (.iconst 1, 1) := by decide +kernel
theorem dL_1058 : decode code 1058 = .ok (.iadd, 1) := by decide +kernel
theorem dL_1059 : decode code 1059 = .ok (.iaload, 1) := by decide +kernel
theorem dL_1060 : decode code 1060 = .ok (.aload_n 0, 1) := by decide +kernel
theorem dL_1061 : decode code 1061 = .ok (.iload_n 3, 1) := by decide +kernel
theorem dL_1062 : decode code 1062 = .ok (.iconst 2, 1) := by decide +kernel
theorem dL_1063 : decode code 1063 = .ok (.iadd, 1) := by decide +kernel
theorem dL_1064 : decode code 1064 = .ok (.iaload, 1) := by decide +kernel
theorem dL_1065 : decode code 1065 = .ok (.invokevirtual 139, 3) := by decide +kernel
theorem dL_1068 : decode code 1068 = .ok (.aload_n 2, 1) := by decide +kernel
theorem dL_1069 : decode code 1069 = .ok (.aload_n 0, 1) := by decide +kernel
theorem dL_1070 : decode code 1070 = .ok (.iload_n 3, 1) := by decide +kernel
theorem dL_1071 : decode code 1071 = .ok (.iconst 1, 1) := by decide +kernel
theorem dL_1072 : decode code 1072 = .ok (.iadd, 1) := by decide +kernel
theorem dL_1073 : decode code 1073 = .ok (.iaload, 1) := by decide +kernel
theorem dL_1074 : decode code 1074 = .ok (.aload_n 0, 1) := by decide +kernel
theorem dL_1075 : decode code 1075 = .ok (.iload_n 3, 1) := by decide +kernel
theorem dL_1076 : decode code 1076 = .ok (.iconst 2, 1) := by decide +kernel
theorem dL_1077 : decode code 1077 = .ok (.iadd, 1) := by decide +kernel
theorem dL_1078 : decode code 1078 = .ok (.iaload, 1) := by decide +kernel
theorem dL_1079 : decode code 1079 = .ok (.invokevirtual 142, 3) := by decide +kernel
theorem dL_1082 : decode code 1082 = .ok (.if_icmp .eq 266, 3) := by decide +kernel
theorem dL_1085 : decode code 1085 = .ok (.iconst 0, 1) := by decide +kernel
theorem dL_1086 : decode code 1086 = .ok (.ireturn, 1) := by decide +kernel
theorem dL_1087 : decode code 1087 = .ok (.aload_n 1, 1) := by decide +kernel
theorem dL_1088 : decode code 1088 = .ok (.aload_n 0, 1) := by decide +kernel
theorem dL_1089 : decode code 1089 = .ok (.iload_n 3, 1) := by decide +kernel
theorem dL_1090 : decode code 1090 = .ok (.iconst 1, 1) := by decide +kernel
theorem dL_1091 : decode code 1091 = .ok (.iadd, 1) := by decide +kernel
theorem dL_1092 : decode code 1092 = .ok (.iaload, 1) := by decide +kernel
theorem dL_1093 : decode code 1093 = .ok (.aload_n 0, 1) := by decide +kernel
theorem dL_1094 : decode code 1094 = .ok (.iload_n 3, 1) := by decide +kernel
theorem dL_1095 : decode code 1095 = .ok (.iconst 2, 1) := by decide +kernel
theorem dL_1096 : decode code 1096 = .ok (.iadd, 1) := by decide +kernel
theorem dL_1097 : decode code 1097 = .ok (.iaload, 1) := by decide +kernel
theorem dL_1098 : decode code 1098 = .ok (.invokevirtual 143, 3) := by decide +kernel
theorem dL_1101 : decode code 1101 = .ok (.aload_n 2, 1) := by decide +kernel
theorem dL_1102 : decode code 1102 = .ok (.aload_n 0, 1) := by decide +kernel
theorem dL_1103 : decode code 1103 = .ok (.iload_n 3, 1) := by decide +kernel
theorem dL_1104 : decode code 1104 = .ok (.iconst 1, 1) := by decide +kernel
theorem dL_1105 : decode code 1105 = .ok (.iadd, 1) := by decide +kernel
theorem dL_1106 : decode code 1106 = .ok (.iaload, 1) := by decide +kernel
theorem dL_1107 : decode code 1107 = .ok (.aload_n 0, 1) := by decide +kernel
theorem dL_1108 : decode code 1108 = .ok (.iload_n 3, 1) := by decide +kernel
theorem dL_1109 : decode code 1109 = .ok (.iconst 2, 1) := by decide +kernel
theorem dL_1110 : decode code 1110 = .ok (.iadd, 1) := by decide +kernel
theorem dL_1111 : decode code 1111 = .ok (.iaload, 1) := by decide +kernel
theorem dL_1112 : decode code 1112 = .ok (.invokevirtual 146, 3) := by decide +kernel
theorem dL_1115 : decode code 1115 = .ok (.if_icmp .eq 233, 3) := by decide +kernel
theorem dL_1118 : decode code 1118 = .ok (.iconst 0, 1) := by decide +kernel
theorem dL_1119 : decode code 1119 = .ok (.ireturn, 1) := by decide +kernel
theorem dL_1120 : decode code 1120 = .ok (.aload_n 1, 1) := by decide +kernel
theorem dL_1121 : decode code 1121 = .ok (.aload_n 0, 1) := by decide +kernel
theorem dL_1122 : decode code 1122 = .ok (.iload_n 3, 1) := by decide +kernel
theorem dL_1123 : decode code 1123 = .ok (.iconst 1, 1) := by decide +kernel
theorem dL_1124 : decode code 1124 = .ok (.iadd, 1) := by decide +kernel
theorem dL_1125 : decode code 1125 = .ok (.iaload, 1) := by decide +kernel
theorem dL_1126 : decode code 1126 = .ok (.invokevirtual 147, 3) := by decide +kernel
theorem dL_1129 : decode code 1129 = .ok (.aload_n 2, 1) := by decide +kernel
theorem dL_1130 : decode code 1130 = .ok (.aload_n 0, 1) := by decide +kernel
theorem dL_1131 : decode code 1131 = .ok (.iload_n 3, 1) := by decide +kernel
theorem dL_1132 : decode code 1132 = .ok (.iconst 1, 1) := by decide +kernel
theorem dL_1133 : decode code 1133 = .ok (.iadd, 1) := by decide +kernel
theorem dL_1134 : decode code 1134 = .ok (.iaload, 1) := by decide +kernel
theorem dL_1135 : decode code 1135 = .ok (.invokevirtual 150, 3) := by decide +kernel
theorem dL_1138 : decode code 1138 = .ok (.if_icmp .eq 210, 3) := by decide +kernel
theorem dL_1141 : decode code 1141 = .ok (.iconst 0, 1) := by decide +kernel
theorem dL_1142 : decode code 1142 = .ok (.ireturn, 1) := by decide +kernel
theorem dL_1143 : decode code 1143 = .ok (.aload_n 1, 1) := by decide +kernel
theorem dL_1144 : decode code 1144 = .ok (.invokevirtual 151, 3) := by decide +kernel
theorem dL_1147 : decode code 1147 = .ok (.aload_n 2, 1) := by decide +kernel
theorem dL_1148 : decode code 1148 = .ok (.invokevirtual 155, 3) := by decide +kernel
theorem dL_1151 : decode code 1151 = .ok (.lcmp, 1) := by decide +kernel
theorem dL_1152 : decode code 1152 = .ok (.ifCond .eq 196, 3) := by decide +kernel
theorem dL_1155 : decode code 1155 = .ok (.iconst 0, 1) := by decide +kernel
theorem dL_1156 : decode code 1156 = .ok (.ireturn, 1) := by decide +kernel
theorem dL_1157 : decode code 1157 = .ok (.aload_n 1, 1) := by decide +kernel
theorem dL_1158 : decode code 1158 = .ok (.aload_n 0, 1) := by decide +kernel
theorem dL_1159 : decode code 1159 = .ok (.iload_n 3, 1) := by decide +kernel
theorem dL_1160 : decode code 1160 = .ok (.iconst 1, 1) := by decide +kernel
theorem dL_1161 : decode code 1161 = .ok (.iadd, 1) := by decide +kernel
theorem dL_1162 : decode code 1162 = .ok (.iaload, 1) := by decide +kernel
theorem dL_1163 : decode code 1163 = .ok (.invokevirtual 156, 3) := by decide +kernel
theorem dL_1166 : decode code 1166 = .ok (.aload_n 2, 1) := by decide +kernel
theorem dL_1167 : decode code 1167 = .ok (.aload_n 0, 1) := by decide +kernel
theorem dL_1168 : decode code 1168 = .ok (.iload_n 3, 1) := by decide +kernel
theorem dL_1169 : decode code 1169 = .ok (.iconst 1, 1) := by decide +kernel
theorem dL_1170 : decode code 1170 = .ok (.iadd, 1) := by decide +kernel
theorem dL_1171 : decode code 1171 = .ok (.iaload, 1) := by decide +kernel
theorem dL_1172 : decode code 1172 = .ok (.invokevirtual 159, 3) := by decide +kernel
theorem dL_1175 : decode code 1175 = .ok (.if_icmp .eq 173, 3) := by decide +kernel
theorem dL_1178 : decode code 1178 = .ok (.iconst 0, 1) := by decide +kernel
theorem dL_1179 : decode code 1179 = .ok (.ireturn, 1) := by decide +kernel
theorem dL_1180 : decode code 1180 = .ok (.aload_n 1, 1) := by decide +kernel
theorem dL_1181 : decode code 1181 = .ok (.aload_n 0, 1) := by decide +kernel
theorem dL_1182 : decode code 1182 = .ok (.iload_n 3, 1) := by decide +kernel
theorem dL_1183 : decode code 1183 = .ok (.iconst 1, 1) := by decide +kernel
theorem dL_1184 : decode code 1184 = .ok (.iadd, 1) := by decide +kernel
theorem dL_1185 : decode code 1185 = .ok (.iaload, 1) := by decide +kernel
theorem dL_1186 : decode code 1186 = .ok (.invokevirtual 160, 3) := by decide +kernel
theorem dL_1189 : decode code 1189 = .ok (.aload_n 2, 1) := by decide +kernel
theorem dL_1190 : decode code 1190 = .ok (.aload_n 0, 1) := by decide +kernel
theorem dL_1191 : decode code 1191 = .ok (.iload_n 3, 1) := by decide +kernel
theorem dL_1192 : decode code 1192 = .ok (.iconst 1, 1) := by decide +kernel
theorem dL_1193 : decode code 1193 = .ok (.iadd, 1) := by decide +kernel
theorem dL_1194 : decode code 1194 = .ok (.iaload, 1) := by decide +kernel
theorem dL_1195 : decode code 1195 = .ok (.invokevirtual 163, 3) := by decide +kernel
theorem dL_1198 : decode code 1198 = .ok (.if_icmp .eq 150, 3) := by decide +kernel
theorem dL_1201 : decode code 1201 = .ok (.iconst 0, 1) := by decide +kernel
theorem dL_1202 : decode code 1202 = .ok (.ireturn, 1) := by decide +kernel
theorem dL_1203 : decode code 1203 = .ok (.aload_n 1, 1) := by decide +kernel
theorem dL_1204 : decode code 1204 = .ok (.aload_n 0, 1) := by decide +kernel
theorem dL_1205 : decode code 1205 = .ok (.iload_n 3, 1) := by decide +kernel
theorem dL_1206 : decode code 1206 = .ok (.iconst 1, 1) := by decide +kernel
theorem dL_1207 : decode code 1207 = .ok (.iadd, 1) := by decide +kernel
theorem dL_1208 : decode code 1208 = .ok (.iaload, 1) := by decide +kernel
theorem dL_1209 : decode code 1209 = .ok (.aload_n 0, 1) := by decide +kernel
theorem dL_1210 : decode code 1210 = .ok (.iload_n 3, 1) := by decide +kernel
theorem dL_1211 : decode code 1211 = .ok (.iconst 2, 1) := by decide +kernel
theorem dL_1212 : decode code 1212 = .ok (.iadd, 1) := by decide +kernel
theorem dL_1213 : decode code 1213 = .ok (.iaload, 1) := by decide +kernel
theorem dL_1214 : decode code 1214 = .ok (.invokevirtual 164, 3) := by decide +kernel
theorem dL_1217 : decode code 1217 = .ok (.aload_n 2, 1) := by decide +kernel
theorem dL_1218 : decode code 1218 = .ok (.aload_n 0, 1) := by decide +kernel
theorem dL_1219 : decode code 1219 = .ok (.iload_n 3, 1) := by decide +kernel
theorem dL_1220 : decode code 1220 = .ok (.iconst 1, 1) := by decide +kernel
theorem dL_1221 : decode code 1221 = .ok (.iadd, 1) := by decide +kernel
theorem dL_1222 : decode code 1222 = .ok (.iaload, 1) := by decide +kernel
theorem dL_1223 : decode code 1223 = .ok (.aload_n 0, 1) := by decide +kernel
theorem dL_1224 : decode code 1224 = .ok (.iload_n 3, 1) := by decide +kernel
theorem dL_1225 : decode code 1225 = .ok (.iconst 2, 1) := by decide +kernel
theorem dL_1226 : decode code 1226 = .ok (.iadd, 1) := by decide +kernel
theorem dL_1227 : decode code 1227 = .ok (.iaload, 1) := by decide +kernel
theorem dL_1228 : decode code 1228 = .ok (.invokevirtual 167, 3) := by decide +kernel
theorem dL_1231 : decode code 1231 = .ok (.if_icmp .eq 117, 3) := by decide +kernel
theorem dL_1234 : decode code 1234 = .ok (.iconst 0, 1) := by decide +kernel
theorem dL_1235 : decode code 1235 = .ok (.ireturn, 1) := by decide +kernel
theorem dL_1236 : decode code 1236 = .ok (.aload_n 1, 1) := by decide +kernel
theorem dL_1237 : decode code 1237 = .ok (.aload_n 0, 1) := by decide +kernel
theorem dL_1238 : decode code 1238 = .ok (.iload_n 3, 1) := by decide +kernel
theorem dL_1239 : decode code 1239 = .ok (.iconst 1, 1) := by decide +kernel
theorem dL_1240 : decode code 1240 = .ok (.iadd, 1) := by decide +kernel
theorem dL_1241 : decode code 1241 = .ok (.iaload, 1) := by decide +kernel
theorem dL_1242 : decode code 1242 = .ok (.aload_n 0, 1) := by decide +kernel
theorem dL_1243 : decode code 1243 = .ok (.iload_n 3, 1) := by decide +kernel
theorem dL_1244 : decode code 1244 = .ok (.iconst 2, 1) := by decide +kernel
theorem dL_1245 : decode code 1245 = .ok (.iadd, 1) := by decide +kernel
theorem dL_1246 : decode code 1246 = .ok (.iaload, 1) := by decide +kernel
theorem dL_1247 : decode code 1247 = .ok (.invokevirtual 168, 3) := by decide +kernel
theorem dL_1250 : decode code 1250 = .ok (.aload_n 2, 1) := by decide +kernel
theorem dL_1251 : decode code 1251 = .ok (.aload_n 0, 1) := by decide +kernel
theorem dL_1252 : decode code 1252 = .ok (.iload_n 3, 1) := by decide +kernel
theorem dL_1253 : decode code 1253 = .ok (.iconst 1, 1) := by decide +kernel
theorem dL_1254 : decode code 1254 = .ok (.iadd, 1) := by decide +kernel
theorem dL_1255 : decode code 1255 = .ok (.iaload, 1) := by decide +kernel
theorem dL_1256 : decode code 1256 = .ok (.aload_n 0, 1) := by decide +kernel
theorem dL_1257 : decode code 1257 = .ok (.iload_n 3, 1) := by decide +kernel
theorem dL_1258 : decode code 1258 = .ok (.iconst 2, 1) := by decide +kernel
theorem dL_1259 : decode code 1259 = .ok (.iadd, 1) := by decide +kernel
theorem dL_1260 : decode code 1260 = .ok (.iaload, 1) := by decide +kernel
theorem dL_1261 : decode code 1261 = .ok (.invokevirtual 171, 3) := by decide +kernel
theorem dL_1264 : decode code 1264 = .ok (.if_icmp .eq 84, 3) := by decide +kernel
theorem dL_1267 : decode code 1267 = .ok (.iconst 0, 1) := by decide +kernel
theorem dL_1268 : decode code 1268 = .ok (.ireturn, 1) := by decide +kernel
theorem dL_1269 : decode code 1269 = .ok (.aload_n 1, 1) := by decide +kernel
theorem dL_1270 : decode code 1270 = .ok (.aload_n 0, 1) := by decide +kernel
theorem dL_1271 : decode code 1271 = .ok (.iload_n 3, 1) := by decide +kernel
theorem dL_1272 : decode code 1272 = .ok (.iconst 1, 1) := by decide +kernel
theorem dL_1273 : decode code 1273 = .ok (.iadd, 1) := by decide +kernel
theorem dL_1274 : decode code 1274 = .ok (.iaload, 1) := by decide +kernel
theorem dL_1275 : decode code 1275 = .ok (.aload_n 0, 1) := by decide +kernel
theorem dL_1276 : decode code 1276 = .ok (.iload_n 3, 1) := by decide +kernel
theorem dL_1277 : decode code 1277 = .ok (.iconst 2, 1) := by decide +kernel
theorem dL_1278 : decode code 1278 = .ok (.iadd, 1) := by decide +kernel
theorem dL_1279 : decode code 1279 = .ok (.iaload, 1) := by decide +kernel
theorem dL_1280 : decode code 1280 = .ok (.invokevirtual 172, 3) := by decide +kernel
theorem dL_1283 : decode code 1283 = .ok (.aload_n 2, 1) := by decide +kernel
theorem dL_1284 : decode code 1284 = .ok (.aload_n 0, 1) := by decide +kernel
theorem dL_1285 : decode code 1285 = .ok (.iload_n 3, 1) := by decide +kernel
theorem dL_1286 : decode code 1286 = .ok (.iconst 1, 1) := by decide +kernel
theorem dL_1287 : decode code 1287 = .ok (.iadd, 1) := by decide +kernel
theorem dL_1288 : decode code 1288 = .ok (.iaload, 1) := by decide +kernel
theorem dL_1289 : decode code 1289 = .ok (.aload_n 0, 1) := by decide +kernel
theorem dL_1290 : decode code 1290 = .ok (.iload_n 3, 1) := by decide +kernel
theorem dL_1291 : decode code 1291 = .ok (.iconst 2, 1) := by decide +kernel
theorem dL_1292 : decode code 1292 = .ok (.iadd, 1) := by decide +kernel
theorem dL_1293 : decode code 1293 = .ok (.iaload, 1) := by decide +kernel
theorem dL_1294 : decode code 1294 = .ok (.invokevirtual 175, 3) := by decide +kernel
theorem dL_1297 : decode code 1297 = .ok (.if_icmp .eq 51, 3) := by decide +kernel
theorem dL_1300 : decode code 1300 = .ok (.iconst 0, 1) := by decide +kernel
theorem dL_1301 : decode code 1301 = .ok (.ireturn, 1) := by decide +kernel
theorem dL_1302 : decode code 1302 = .ok (.aload_n 1, 1) := by decide +kernel
theorem dL_1303 : decode code 1303 = .ok (.aload_n 0, 1) := by decide +kernel
theorem dL_1304 : decode code 1304 = .ok (.iload_n 3, 1) := by decide +kernel
theorem dL_1305 : decode code 1305 = .ok (.iconst 1, 1) := by decide +kernel
theorem dL_1306 : decode code 1306 = .ok (.iadd, 1) := by decide +kernel
theorem dL_1307 : decode code 1307 = .ok (.iaload, 1) := by decide +kernel
theorem dL_1308 : decode code 1308 = .ok (.invokevirtual 176, 3) := by decide +kernel
theorem dL_1311 : decode code 1311 = .ok (.aload_n 2, 1) := by decide +kernel
theorem dL_1312 : decode code 1312 = .ok (.aload_n 0, 1) := by decide +kernel
theorem dL_1313 : decode code 1313 = .ok (.iload_n 3, 1) := by decide +kernel
theorem dL_1314 : decode code 1314 = .ok (.iconst 1, 1) := by decide +kernel
theorem dL_1315 : decode code 1315 = .ok (.iadd, 1) := by decide +kernel
theorem dL_1316 : decode code 1316 = .ok (.iaload, 1) := by decide +kernel
theorem dL_1317 : decode code 1317 = .ok (.invokevirtual 179, 3) := by decide +kernel
theorem dL_1320 : decode code 1320 = .ok (.if_icmp .eq 28, 3) := by decide +kernel
theorem dL_1323 : decode code 1323 = .ok (.iconst 0, 1) := by decide +kernel
theorem dL_1324 : decode code 1324 = .ok (.ireturn, 1) := by decide +kernel
theorem dL_1325 : decode code 1325 = .ok (.aload_n 1, 1) := by decide +kernel
theorem dL_1326 : decode code 1326 = .ok (.aload_n 0, 1) := by decide +kernel
theorem dL_1327 : decode code 1327 = .ok (.iload_n 3, 1) := by decide +kernel
theorem dL_1328 : decode code 1328 = .ok (.iconst 1, 1) := by decide +kernel
theorem dL_1329 : decode code 1329 = .ok (.iadd, 1) := by decide +kernel
theorem dL_1330 : decode code 1330 = .ok (.iaload, 1) := by decide +kernel
theorem dL_1331 : decode code 1331 = .ok (.invokevirtual 180, 3) := by decide +kernel
theorem dL_1334 : decode code 1334 = .ok (.aload_n 2, 1) := by decide +kernel
theorem dL_1335 : decode code 1335 = .ok (.aload_n 0, 1) := by decide +kernel
theorem dL_1336 : decode code 1336 = .ok (.iload_n 3, 1) := by decide +kernel
theorem dL_1337 : decode code 1337 = .ok (.iconst 1, 1) := by decide +kernel
theorem dL_1338 : decode code 1338 = .ok (.iadd, 1) := by decide +kernel
theorem dL_1339 : decode code 1339 = .ok (.iaload, 1) := by decide +kernel
theorem dL_1340 : decode code 1340 = .ok (.invokevirtual 183, 3) := by decide +kernel
theorem dL_1343 : decode code 1343 = .ok (.if_icmp .eq 5, 3) := by decide +kernel
theorem dL_1346 : decode code 1346 = .ok (.iconst 0, 1) := by decide +kernel
theorem dL_1347 : decode code 1347 = .ok (.ireturn, 1) := by decide +kernel
theorem dL_1348 : decode code 1348 = .ok (.iinc 3 6, 3) := by decide +kernel
theorem dL_1351 : decode code 1351 = .ok (.goto (-1333), 3) := by decide +kernel
theorem dL_1354 : decode code 1354 = .ok (.iconst 1, 1) := by decide +kernel
theorem dL_1355 : decode code 1355 = .ok (.ireturn, 1) := by decide +kernel

set_option maxRecDepth 20000
theorem dL_law_0 : decode code 0 = .ok (.new 7, 3) := by decide +kernel
theorem dL_law_3 : decode code 3 = .ok (.dup, 1) := by decide +kernel
theorem dL_law_4 : decode code 4 = .ok (.invokespecial 9, 3) := by decide +kernel
theorem dL_law_7 : decode code 7 = .ok (.astore_n 1, 1) := by decide +kernel
theorem dL_law_8 : decode code 8 = .ok (.new 10, 3) := by decide +kernel
theorem dL_law_11 : decode code 11 = .ok (.dup, 1) := by decide +kernel
theorem dL_law_12 : decode code 12 = .ok (.invokespecial 12, 3) := by decide +kernel
theorem dL_law_15 : decode code 15 = .ok (.astore_n 2, 1) := by decide +kernel
theorem dL_law_16 : decode code 16 = .ok (.iconst 0, 1) := by decide +kernel
theorem dL_law_17 : decode code 17 = .ok (.istore_n 3, 1) := by decide +kernel
theorem dL_law_18 : decode code 18 = .ok (.iload_n 3, 1) := by decide +kernel
theorem dL_law_19 : decode code 19 = .ok (.aload_n 0, 1) := by decide +kernel
theorem dL_law_20 : decode code 20 = .ok (.arraylength, 1) := by decide +kernel
theorem dL_law_21 : decode code 21 = .ok (.bipush 6, 2) := by decide +kernel
theorem dL_law_23 : decode code 23 = .ok (.isub, 1) := by decide +kernel
theorem dL_law_24 : decode code 24 = .ok (.if_icmp .gt 1615, 3) := by decide +kernel
theorem dL_law_27 : decode code 27 = .ok (.aload_n 0, 1) := by decide +kernel
theorem dL_law_28 : decode code 28 = .ok (.iload_n 3, 1) := by decide +kernel
theorem dL_law_29 : decode code 29 = .ok (.iaload, 1) := by decide +kernel
theorem dL_law_30 : decode code 30 = .ok (.bipush 63, 2) := by decide +kernel
theorem dL_law_32 : decode code 32 = .ok (.iand, 1) := by decide +kernel
theorem dL_law_33 : decode code 33 = .ok (.tableswitch 1600 0 44 #[195, 238, 271, 304, 327, 370, 403, 436, 479, 512, 555, 588, 621, 684, 707, 760, 783, 806, 839, 852, 885, 928, 961, 984, 1017, 1050, 1073, 1086, 1119, 1142, 1165, 1208, 1231, 1274, 1297, 1340, 1383, 1446, 1469, 1492, 1505, 1518, 1541, 1554, 1577], 195) := by decide +kernel
theorem dL_law_228 : decode code 228 = .ok (.aload_n 1, 1) := by decide +kernel
theorem dL_law_229 : decode code 229 = .ok (.aload_n 0, 1) := by decide +kernel
theorem dL_law_230 : decode code 230 = .ok (.iload_n 3, 1) := by decide +kernel
theorem dL_law_231 : decode code 231 = .ok (.iconst 1, 1) := by decide +kernel
theorem dL_law_232 : decode code 232 = .ok (.iadd, 1) := by decide +kernel
theorem dL_law_233 : decode code 233 = .ok (.iaload, 1) := by decide +kernel
theorem dL_law_234 : decode code 234 = .ok (.aload_n 0, 1) := by decide +kernel
theorem dL_law_235 : decode code 235 = .ok (.iload_n 3, 1) := by decide +kernel
theorem dL_law_236 : decode code 236 = .ok (.iconst 2, 1) := by decide +kernel
theorem dL_law_237 : decode code 237 = .ok (.iadd, 1) := by decide +kernel
theorem dL_law_238 : decode code 238 = .ok (.iaload, 1) := by decide +kernel
theorem dL_law_239 : decode code 239 = .ok (.aload_n 0, 1) := by decide +kernel
theorem dL_law_240 : decode code 240 = .ok (.iload_n 3, 1) := by decide +kernel
theorem dL_law_241 : decode code 241 = .ok (.iconst 3, 1) := by decide +kernel
theorem dL_law_242 : decode code 242 = .ok (.iadd, 1) := by decide +kernel
theorem dL_law_243 : decode code 243 = .ok (.iaload, 1) := by decide +kernel
theorem dL_law_244 : decode code 244 = .ok (.invokevirtual 13, 3) := by decide +kernel
theorem dL_law_247 : decode code 247 = .ok (.aload_n 2, 1) := by decide +kernel
theorem dL_law_248 : decode code 248 = .ok (.aload_n 0, 1) := by decide +kernel
theorem dL_law_249 : decode code 249 = .ok (.iload_n 3, 1) := by decide +kernel
theorem dL_law_250 : decode code 250 = .ok (.iconst 1, 1) := by decide +kernel
theorem dL_law_251 : decode code 251 = .ok (.iadd, 1) := by decide +kernel
theorem dL_law_252 : decode code 252 = .ok (.iaload, 1) := by decide +kernel
theorem dL_law_253 : decode code 253 = .ok (.aload_n 0, 1) := by decide +kernel
theorem dL_law_254 : decode code 254 = .ok (.iload_n 3, 1) := by decide +kernel
theorem dL_law_255 : decode code 255 = .ok (.iconst 2, 1) := by decide +kernel
theorem dL_law_256 : decode code 256 = .ok (.iadd, 1) := by decide +kernel
theorem dL_law_257 : decode code 257 = .ok (.iaload, 1) := by decide +kernel
theorem dL_law_258 : decode code 258 = .ok (.aload_n 0, 1) := by decide +kernel
theorem dL_law_259 : decode code 259 = .ok (.iload_n 3, 1) := by decide +kernel
theorem dL_law_260 : decode code 260 = .ok (.iconst 3, 1) := by decide +kernel
theorem dL_law_261 : decode code 261 = .ok (.iadd, 1) := by decide +kernel
theorem dL_law_262 : decode code 262 = .ok (.iaload, 1) := by decide +kernel
theorem dL_law_263 : decode code 263 = .ok (.invokevirtual 17, 3) := by decide +kernel
theorem dL_law_266 : decode code 266 = .ok (.if_icmp .eq 1367, 3) := by decide +kernel
theorem dL_law_269 : decode code 269 = .ok (.iconst 0, 1) := by decide +kernel
theorem dL_law_270 : decode code 270 = .ok (.ireturn, 1) := by decide +kernel
theorem dL_law_271 : decode code 271 = .ok (.aload_n 1, 1) := by decide +kernel
theorem dL_law_272 : decode code 272 = .ok (.aload_n 0, 1) := by decide +kernel
theorem dL_law_273 : decode code 273 = .ok (.iload_n 3, 1) := by decide +kernel
theorem dL_law_274 : decode code 274 = .ok (.iconst 1, 1) := by decide +kernel
theorem dL_law_275 : decode code 275 = .ok (.iadd, 1) := by decide +kernel
theorem dL_law_276 : decode code 276 = .ok (.iaload, 1) := by decide +kernel
theorem dL_law_277 : decode code 277 = .ok (.aload_n 0, 1) := by decide +kernel
theorem dL_law_278 : decode code 278 = .ok (.iload_n 3, 1) := by decide +kernel
theorem dL_law_279 : decode code 279 = .ok (.iconst 2, 1) := by decide +kernel
theorem dL_law_280 : decode code 280 = .ok (.iadd, 1) := by decide +kernel
theorem dL_law_281 : decode code 281 = .ok (.iaload, 1) := by decide +kernel
theorem dL_law_282 : decode code 282 = .ok (.invokevirtual 18, 3) := by decide +kernel
theorem dL_law_285 : decode code 285 = .ok (.aload_n 2, 1) := by decide +kernel
theorem dL_law_286 : decode code 286 = .ok (.aload_n 0, 1) := by decide +kernel
theorem dL_law_287 : decode code 287 = .ok (.iload_n 3, 1) := by decide +kernel
theorem dL_law_288 : decode code 288 = .ok (.iconst 1, 1) := by decide +kernel
theorem dL_law_289 : decode code 289 = .ok (.iadd, 1) := by decide +kernel
theorem dL_law_290 : decode code 290 = .ok (.iaload, 1) := by decide +kernel
theorem dL_law_291 : decode code 291 = .ok (.aload_n 0, 1) := by decide +kernel
theorem dL_law_292 : decode code 292 = .ok (.iload_n 3, 1) := by decide +kernel
theorem dL_law_293 : decode code 293 = .ok (.iconst 2, 1) := by decide +kernel
theorem dL_law_294 : decode code 294 = .ok (.iadd, 1) := by decide +kernel
theorem dL_law_295 : decode code 295 = .ok (.iaload, 1) := by decide +kernel
theorem dL_law_296 : decode code 296 = .ok (.invokevirtual 22, 3) := by decide +kernel
theorem dL_law_299 : decode code 299 = .ok (.if_icmp .eq 1334, 3) := by decide +kernel
theorem dL_law_302 : decode code 302 = .ok (.iconst 0, 1) := by decide +kernel
theorem dL_law_303 : decode code 303 = .ok (.ireturn, 1) := by decide +kernel
theorem dL_law_304 : decode code 304 = .ok (.aload_n 1, 1) := by decide +kernel
theorem dL_law_305 : decode code 305 = .ok (.aload_n 0, 1) := by decide +kernel
theorem dL_law_306 : decode code 306 = .ok (.iload_n 3, 1) := by decide +kernel
theorem dL_law_307 : decode code 307 = .ok (.iconst 1, 1) := by decide +kernel
theorem dL_law_308 : decode code 308 = .ok (.iadd, 1) := by decide +kernel
theorem dL_law_309 : decode code 309 = .ok (.iaload, 1) := by decide +kernel
theorem dL_law_310 : decode code 310 = .ok (.aload_n 0, 1) := by decide +kernel
theorem dL_law_311 : decode code 311 = .ok (.iload_n 3, 1) := by decide +kernel
theorem dL_law_312 : decode code 312 = .ok (.iconst 2, 1) := by decide +kernel
theorem dL_law_313 : decode code 313 = .ok (.iadd, 1) := by decide +kernel
theorem dL_law_314 : decode code 314 = .ok (.iaload, 1) := by decide +kernel
theorem dL_law_315 : decode code 315 = .ok (.invokevirtual 23, 3) := by decide +kernel
theorem dL_law_318 : decode code 318 = .ok (.aload_n 2, 1) := by decide +kernel
theorem dL_law_319 : decode code 319 = .ok (.aload_n 0, 1) := by decide +kernel
theorem dL_law_320 : decode code 320 = .ok (.iload_n 3, 1) := by decide +kernel
theorem dL_law_321 : decode code 321 = .ok (.iconst 1, 1) := by decide +kernel
theorem dL_law_322 : decode code 322 = .ok (.iadd, 1) := by decide +kernel
theorem dL_law_323 : decode code 323 = .ok (.iaload, 1) := by decide +kernel
theorem dL_law_324 : decode code 324 = .ok (.aload_n 0, 1) := by decide +kernel
theorem dL_law_325 : decode code 325 = .ok (.iload_n 3, 1) := by decide +kernel
theorem dL_law_326 : decode code 326 = .ok (.iconst 2, 1) := by decide +kernel
theorem dL_law_327 : decode code 327 = .ok (.iadd, 1) := by decide +kernel
theorem dL_law_328 : decode code 328 = .ok (.iaload, 1) := by decide +kernel
theorem dL_law_329 : decode code 329 = .ok (.invokevirtual 26, 3) := by decide +kernel
theorem dL_law_332 : decode code 332 = .ok (.if_icmp .eq 1301, 3) := by decide +kernel
theorem dL_law_335 : decode code 335 = .ok (.iconst 0, 1) := by decide +kernel
theorem dL_law_336 : decode code 336 = .ok (.ireturn, 1) := by decide +kernel
theorem dL_law_337 : decode code 337 = .ok (.aload_n 1, 1) := by decide +kernel
theorem dL_law_338 : decode code 338 = .ok (.aload_n 0, 1) := by decide +kernel
theorem dL_law_339 : decode code 339 = .ok (.iload_n 3, 1) := by decide +kernel
theorem dL_law_340 : decode code 340 = .ok (.iconst 1, 1) := by decide +kernel
theorem dL_law_341 : decode code 341 = .ok (.iadd, 1) := by decide +kernel
theorem dL_law_342 : decode code 342 = .ok (.iaload, 1) := by decide +kernel
theorem dL_law_343 : decode code 343 = .ok (.invokevirtual 27, 3) := by decide +kernel
theorem dL_law_346 : decode code 346 = .ok (.aload_n 2, 1) := by decide +kernel
theorem dL_law_347 : decode code 347 = .ok (.aload_n 0, 1) := by decide +kernel
theorem dL_law_348 : decode code 348 = .ok (.iload_n 3, 1) := by decide +kernel
theorem dL_law_349 : decode code 349 = .ok (.iconst 1, 1) := by decide +kernel
theorem dL_law_350 : decode code 350 = .ok (.iadd, 1) := by decide +kernel
theorem dL_law_351 : decode code 351 = .ok (.iaload, 1) := by decide +kernel
theorem dL_law_352 : decode code 352 = .ok (.invokevirtual 31, 3) := by decide +kernel
theorem dL_law_355 : decode code 355 = .ok (.if_icmp .eq 1278, 3) := by decide +kernel
theorem dL_law_358 : decode code 358 = .ok (.iconst 0, 1) := by decide +kernel
theorem dL_law_359 : decode code 359 = .ok (.ireturn, 1) := by decide +kernel
theorem dL_law_360 : decode code 360 = .ok (.aload_n 1, 1) := by decide +kernel
theorem dL_law_361 : decode code 361 = .ok (.aload_n 0, 1) := by decide +kernel
theorem dL_law_362 : decode code 362 = .ok (.iload_n 3, 1) := by decide +kernel
theorem dL_law_363 : decode code 363 = .ok (.iconst 1, 1) := by decide +kernel
theorem dL_law_364 : decode code 364 = .ok (.iadd, 1) := by decide +kernel
theorem dL_law_365 : decode code 365 = .ok (.iaload, 1) := by decide +kernel
theorem dL_law_366 : decode code 366 = .ok (.aload_n 0, 1) := by decide +kernel
theorem dL_law_367 : decode code 367 = .ok (.iload_n 3, 1) := by decide +kernel
theorem dL_law_368 : decode code 368 = .ok (.iconst 2, 1) := by decide +kernel
theorem dL_law_369 : decode code 369 = .ok (.iadd, 1) := by decide +kernel
theorem dL_law_370 : decode code 370 = .ok (.iaload, 1) := by decide +kernel
theorem dL_law_371 : decode code 371 = .ok (.aload_n 0, 1) := by decide +kernel
theorem dL_law_372 : decode code 372 = .ok (.iload_n 3, 1) := by decide +kernel
theorem dL_law_373 : decode code 373 = .ok (.iconst 3, 1) := by decide +kernel
theorem dL_law_374 : decode code 374 = .ok (.iadd, 1) := by decide +kernel
theorem dL_law_375 : decode code 375 = .ok (.iaload, 1) := by decide +kernel
theorem dL_law_376 : decode code 376 = .ok (.invokevirtual 32, 3) := by decide +kernel
theorem dL_law_379 : decode code 379 = .ok (.aload_n 2, 1) := by decide +kernel
theorem dL_law_380 : decode code 380 = .ok (.aload_n 0, 1) := by decide +kernel
theorem dL_law_381 : decode code 381 = .ok (.iload_n 3, 1) := by decide +kernel
theorem dL_law_382 : decode code 382 = .ok (.iconst 1, 1) := by decide +kernel
theorem dL_law_383 : decode code 383 = .ok (.iadd, 1) := by decide +kernel
theorem dL_law_384 : decode code 384 = .ok (.iaload, 1) := by decide +kernel
theorem dL_law_385 : decode code 385 = .ok (.aload_n 0, 1) := by decide +kernel
theorem dL_law_386 : decode code 386 = .ok (.iload_n 3, 1) := by decide +kernel
theorem dL_law_387 : decode code 387 = .ok (.iconst 2, 1) := by decide +kernel
theorem dL_law_388 : decode code 388 = .ok (.iadd, 1) := by decide +kernel
theorem dL_law_389 : decode code 389 = .ok (.iaload, 1) := by decide +kernel
theorem dL_law_390 : decode code 390 = .ok (.aload_n 0, 1) := by decide +kernel
theorem dL_law_391 : decode code 391 = .ok (.iload_n 3, 1) := by decide +kernel
theorem dL_law_392 : decode code 392 = .ok (.iconst 3, 1) := by decide +kernel
theorem dL_law_393 : decode code 393 = .ok (.iadd, 1) := by decide +kernel
theorem dL_law_394 : decode code 394 = .ok (.iaload, 1) := by decide +kernel
theorem dL_law_395 : decode code 395 = .ok (.invokevirtual 35, 3) := by decide +kernel
theorem dL_law_398 : decode code 398 = .ok (.if_icmp .eq 1235, 3) := by decide +kernel
theorem dL_law_401 : decode code 401 = .ok (.iconst 0, 1) := by decide +kernel
theorem dL_law_402 : decode code 402 = .ok (.ireturn, 1) := by decide +kernel
theorem dL_law_403 : decode code 403 = .ok (.aload_n 1, 1) := by decide +kernel
theorem dL_law_404 : decode code 404 = .ok (.aload_n 0, 1) := by decide +kernel
theorem dL_law_405 : decode code 405 = .ok (.iload_n 3, 1) := by decide +kernel
theorem dL_law_406 : decode code 406 = .ok (.iconst 1, 1) := by decide +kernel
theorem dL_law_407 : decode code 407 = .ok (.iadd, 1) := by decide +kernel
theorem dL_law_408 : decode code 408 = .ok (.iaload, 1) := by decide +kernel
theorem dL_law_409 : decode code 409 = .ok (.aload_n 0, 1) := by decide +kernel
theorem dL_law_410 : decode code 410 = .ok (.iload_n 3, 1) := by decide +kernel
theorem dL_law_411 : decode code 411 = .ok (.iconst 2, 1) := by decide +kernel
theorem dL_law_412 : decode code 412 = .ok (.iadd, 1) := by decide +kernel
theorem dL_law_413 : decode code 413 = .ok (.iaload, 1) := by decide +kernel
theorem dL_law_414 : decode code 414 = .ok (.invokevirtual 36, 3) := by decide +kernel
theorem dL_law_417 : decode code 417 = .ok (.aload_n 2, 1) := by decide +kernel
theorem dL_law_418 : decode code 418 = .ok (.aload_n 0, 1) := by decide +kernel
theorem dL_law_419 : decode code 419 = .ok (.iload_n 3, 1) := by decide +kernel
theorem dL_law_420 : decode code 420 = .ok (.iconst 1, 1) := by decide +kernel
theorem dL_law_421 : decode code 421 = .ok (.iadd, 1) := by decide +kernel
theorem dL_law_422 : decode code 422 = .ok (.iaload, 1) := by decide +kernel
theorem dL_law_423 : decode code 423 = .ok (.aload_n 0, 1) := by decide +kernel
theorem dL_law_424 : decode code 424 = .ok (.iload_n 3, 1) := by decide +kernel
theorem dL_law_425 : decode code 425 = .ok (.iconst 2, 1) := by decide +kernel
theorem dL_law_426 : decode code 426 = .ok (.iadd, 1) := by decide +kernel
theorem dL_law_427 : decode code 427 = .ok (.iaload, 1) := by decide +kernel
theorem dL_law_428 : decode code 428 = .ok (.invokevirtual 39, 3) := by decide +kernel
theorem dL_law_431 : decode code 431 = .ok (.if_icmp .eq 1202, 3) := by decide +kernel
theorem dL_law_434 : decode code 434 = .ok (.iconst 0, 1) := by decide +kernel
theorem dL_law_435 : decode code 435 = .ok (.ireturn, 1) := by decide +kernel
theorem dL_law_436 : decode code 436 = .ok (.aload_n 1, 1) := by decide +kernel
theorem dL_law_437 : decode code 437 = .ok (.aload_n 0, 1) := by decide +kernel
theorem dL_law_438 : decode code 438 = .ok (.iload_n 3, 1) := by decide +kernel
theorem dL_law_439 : decode code 439 = .ok (.iconst 1, 1) := by decide +kernel
theorem dL_law_440 : decode code 440 = .ok (.iadd, 1) := by decide +kernel
theorem dL_law_441 : decode code 441 = .ok (.iaload, 1) := by decide +kernel
theorem dL_law_442 : decode code 442 = .ok (.aload_n 0, 1) := by decide +kernel
theorem dL_law_443 : decode code 443 = .ok (.iload_n 3, 1) := by decide +kernel
theorem dL_law_444 : decode code 444 = .ok (.iconst 2, 1) := by decide +kernel
theorem dL_law_445 : decode code 445 = .ok (.iadd, 1) := by decide +kernel
theorem dL_law_446 : decode code 446 = .ok (.iaload, 1) := by decide +kernel
theorem dL_law_447 : decode code 447 = .ok (.invokevirtual 40, 3) := by decide +kernel
theorem dL_law_450 : decode code 450 = .ok (.aload_n 2, 1) := by decide +kernel
theorem dL_law_451 : decode code 451 = .ok (.aload_n 0, 1) := by decide +kernel
theorem dL_law_452 : decode code 452 = .ok (.iload_n 3, 1) := by decide +kernel
theorem dL_law_453 : decode code 453 = .ok (.iconst 1, 1) := by decide +kernel
theorem dL_law_454 : decode code 454 = .ok (.iadd, 1) := by decide +kernel
theorem dL_law_455 : decode code 455 = .ok (.iaload, 1) := by decide +kernel
theorem dL_law_456 : decode code 456 = .ok (.aload_n 0, 1) := by decide +kernel
theorem dL_law_457 : decode code 457 = .ok (.iload_n 3, 1) := by decide +kernel
theorem dL_law_458 : decode code 458 = .ok (.iconst 2, 1) := by decide +kernel
theorem dL_law_459 : decode code 459 = .ok (.iadd, 1) := by decide +kernel
theorem dL_law_460 : decode code 460 = .ok (.iaload, 1) := by decide +kernel
theorem dL_law_461 : decode code 461 = .ok (.invokevirtual 43, 3) := by decide +kernel
theorem dL_law_464 : decode code 464 = .ok (.if_icmp .eq 1169, 3) := by decide +kernel
theorem dL_law_467 : decode code 467 = .ok (.iconst 0, 1) := by decide +kernel
theorem dL_law_468 : decode code 468 = .ok (.ireturn, 1) := by decide +kernel
theorem dL_law_469 : decode code 469 = .ok (.aload_n 1, 1) := by decide +kernel
theorem dL_law_470 : decode code 470 = .ok (.aload_n 0, 1) := by decide +kernel
theorem dL_law_471 : decode code 471 = .ok (.iload_n 3, 1) := by decide +kernel
theorem dL_law_472 : decode code 472 = .ok (.iconst 1, 1) := by decide +kernel
theorem dL_law_473 : decode code 473 = .ok (.iadd, 1) := by decide +kernel
theorem dL_law_474 : decode code 474 = .ok (.iaload, 1) := by decide +kernel
theorem dL_law_475 : decode code 475 = .ok (.aload_n 0, 1) := by decide +kernel
theorem dL_law_476 : decode code 476 = .ok (.iload_n 3, 1) := by decide +kernel
theorem dL_law_477 : decode code 477 = .ok (.iconst 2, 1) := by decide +kernel
theorem dL_law_478 : decode code 478 = .ok (.iadd, 1) := by decide +kernel
theorem dL_law_479 : decode code 479 = .ok (.iaload, 1) := by decide +kernel
theorem dL_law_480 : decode code 480 = .ok (.aload_n 0, 1) := by decide +kernel
theorem dL_law_481 : decode code 481 = .ok (.iload_n 3, 1) := by decide +kernel
theorem dL_law_482 : decode code 482 = .ok (.iconst 3, 1) := by decide +kernel
theorem dL_law_483 : decode code 483 = .ok (.iadd, 1) := by decide +kernel
theorem dL_law_484 : decode code 484 = .ok (.iaload, 1) := by decide +kernel
theorem dL_law_485 : decode code 485 = .ok (.invokevirtual 44, 3) := by decide +kernel
theorem dL_law_488 : decode code 488 = .ok (.aload_n 2, 1) := by decide +kernel
theorem dL_law_489 : decode code 489 = .ok (.aload_n 0, 1) := by decide +kernel
theorem dL_law_490 : decode code 490 = .ok (.iload_n 3, 1) := by decide +kernel
theorem dL_law_491 : decode code 491 = .ok (.iconst 1, 1) := by decide +kernel
theorem dL_law_492 : decode code 492 = .ok (.iadd, 1) := by decide +kernel
theorem dL_law_493 : decode code 493 = .ok (.iaload, 1) := by decide +kernel
theorem dL_law_494 : decode code 494 = .ok (.aload_n 0, 1) := by decide +kernel
theorem dL_law_495 : decode code 495 = .ok (.iload_n 3, 1) := by decide +kernel
theorem dL_law_496 : decode code 496 = .ok (.iconst 2, 1) := by decide +kernel
theorem dL_law_497 : decode code 497 = .ok (.iadd, 1) := by decide +kernel
theorem dL_law_498 : decode code 498 = .ok (.iaload, 1) := by decide +kernel
theorem dL_law_499 : decode code 499 = .ok (.aload_n 0, 1) := by decide +kernel
theorem dL_law_500 : decode code 500 = .ok (.iload_n 3, 1) := by decide +kernel
theorem dL_law_501 : decode code 501 = .ok (.iconst 3, 1) := by decide +kernel
theorem dL_law_502 : decode code 502 = .ok (.iadd, 1) := by decide +kernel
theorem dL_law_503 : decode code 503 = .ok (.iaload, 1) := by decide +kernel
theorem dL_law_504 : decode code 504 = .ok (.invokevirtual 47, 3) := by decide +kernel
theorem dL_law_507 : decode code 507 = .ok (.if_icmp .eq 1126, 3) := by decide +kernel
theorem dL_law_510 : decode code 510 = .ok (.iconst 0, 1) := by decide +kernel
theorem dL_law_511 : decode code 511 = .ok (.ireturn, 1) := by decide +kernel
theorem dL_law_512 : decode code 512 = .ok (.aload_n 1, 1) := by decide +kernel
theorem dL_law_513 : decode code 513 = .ok (.aload_n 0, 1) := by decide +kernel
theorem dL_law_514 : decode code 514 = .ok (.iload_n 3, 1) := by decide +kernel
theorem dL_law_515 : decode code 515 = .ok (.iconst 1, 1) := by decide +kernel
theorem dL_law_516 : decode code 516 = .ok (.iadd, 1) := by decide +kernel
theorem dL_law_517 : decode code 517 = .ok (.iaload, 1) := by decide +kernel
theorem dL_law_518 : decode code 518 = .ok (.aload_n 0, 1) := by decide +kernel
theorem dL_law_519 : decode code 519 = .ok (.iload_n 3, 1) := by decide +kernel
theorem dL_law_520 : decode code 520 = .ok (.iconst 2, 1) := by decide +kernel
theorem dL_law_521 : decode code 521 = .ok (.iadd, 1) := by decide +kernel
theorem dL_law_522 : decode code 522 = .ok (.iaload, 1) := by decide +kernel
theorem dL_law_523 : decode code 523 = .ok (.invokevirtual 48, 3) := by decide +kernel
theorem dL_law_526 : decode code 526 = .ok (.aload_n 2, 1) := by decide +kernel
theorem dL_law_527 : decode code 527 = .ok (.aload_n 0, 1) := by decide +kernel
theorem dL_law_528 : decode code 528 = .ok (.iload_n 3, 1) := by decide +kernel
theorem dL_law_529 : decode code 529 = .ok (.iconst 1, 1) := by decide +kernel
theorem dL_law_530 : decode code 530 = .ok (.iadd, 1) := by decide +kernel
theorem dL_law_531 : decode code 531 = .ok (.iaload, 1) := by decide +kernel
theorem dL_law_532 : decode code 532 = .ok (.aload_n 0, 1) := by decide +kernel
theorem dL_law_533 : decode code 533 = .ok (.iload_n 3, 1) := by decide +kernel
theorem dL_law_534 : decode code 534 = .ok (.iconst 2, 1) := by decide +kernel
theorem dL_law_535 : decode code 535 = .ok (.iadd, 1) := by decide +kernel
theorem dL_law_536 : decode code 536 = .ok (.iaload, 1) := by decide +kernel
theorem dL_law_537 : decode code 537 = .ok (.invokevirtual 51, 3) := by decide +kernel
theorem dL_law_540 : decode code 540 = .ok (.if_icmp .eq 1093, 3) := by decide +kernel
theorem dL_law_543 : decode code 543 = .ok (.iconst 0, 1) := by decide +kernel
theorem dL_law_544 : decode code 544 = .ok (.ireturn, 1) := by decide +kernel
theorem dL_law_545 : decode code 545 = .ok (.aload_n 1, 1) := by decide +kernel
theorem dL_law_546 : decode code 546 = .ok (.aload_n 0, 1) := by decide +kernel
theorem dL_law_547 : decode code 547 = .ok (.iload_n 3, 1) := by decide +kernel
theorem dL_law_548 : decode code 548 = .ok (.iconst 1, 1) := by decide +kernel
theorem dL_law_549 : decode code 549 = .ok (.iadd, 1) := by decide +kernel
theorem dL_law_550 : decode code 550 = .ok (.iaload, 1) := by decide +kernel
theorem dL_law_551 : decode code 551 = .ok (.aload_n 0, 1) := by decide +kernel
theorem dL_law_552 : decode code 552 = .ok (.iload_n 3, 1) := by decide +kernel
theorem dL_law_553 : decode code 553 = .ok (.iconst 2, 1) := by decide +kernel
theorem dL_law_554 : decode code 554 = .ok (.iadd, 1) := by decide +kernel
theorem dL_law_555 : decode code 555 = .ok (.iaload, 1) := by decide +kernel
theorem dL_law_556 : decode code 556 = .ok (.aload_n 0, 1) := by decide +kernel
theorem dL_law_557 : decode code 557 = .ok (.iload_n 3, 1) := by decide +kernel
theorem dL_law_558 : decode code 558 = .ok (.iconst 3, 1) := by decide +kernel
theorem dL_law_559 : decode code 559 = .ok (.iadd, 1) := by decide +kernel
theorem dL_law_560 : decode code 560 = .ok (.iaload, 1) := by decide +kernel
theorem dL_law_561 : decode code 561 = .ok (.invokevirtual 52, 3) := by decide +kernel
theorem dL_law_564 : decode code 564 = .ok (.aload_n 2, 1) := by decide +kernel
theorem dL_law_565 : decode code 565 = .ok (.aload_n 0, 1) := by decide +kernel
theorem dL_law_566 : decode code 566 = .ok (.iload_n 3, 1) := by decide +kernel
theorem dL_law_567 : decode code 567 = .ok (.iconst 1, 1) := by decide +kernel
theorem dL_law_568 : decode code 568 = .ok (.iadd, 1) := by decide +kernel
theorem dL_law_569 : decode code 569 = .ok (.iaload, 1) := by decide +kernel
theorem dL_law_570 : decode code 570 = .ok (.aload_n 0, 1) := by decide +kernel
theorem dL_law_571 : decode code 571 = .ok (.iload_n 3, 1) := by decide +kernel
theorem dL_law_572 : decode code 572 = .ok (.iconst 2, 1) := by decide +kernel
theorem dL_law_573 : decode code 573 = .ok (.iadd, 1) := by decide +kernel
theorem dL_law_574 : decode code 574 = .ok (.iaload, 1) := by decide +kernel
theorem dL_law_575 : decode code 575 = .ok (.aload_n 0, 1) := by decide +kernel
theorem dL_law_576 : decode code 576 = .ok (.iload_n 3, 1) := by decide +kernel
theorem dL_law_577 : decode code 577 = .ok (.iconst 3, 1) := by decide +kernel
theorem dL_law_578 : decode code 578 = .ok (.iadd, 1) := by decide +kernel
theorem dL_law_579 : decode code 579 = .ok (.iaload, 1) := by decide +kernel
theorem dL_law_580 : decode code 580 = .ok (.invokevirtual 55, 3) := by decide +kernel
theorem dL_law_583 : decode code 583 = .ok (.if_icmp .eq 1050, 3) := by decide +kernel
theorem dL_law_586 : decode code 586 = .ok (.iconst 0, 1) := by decide +kernel
theorem dL_law_587 : decode code 587 = .ok (.ireturn, 1) := by decide +kernel
theorem dL_law_588 : decode code 588 = .ok (.aload_n 1, 1) := by decide +kernel
theorem dL_law_589 : decode code 589 = .ok (.aload_n 0, 1) := by decide +kernel
theorem dL_law_590 : decode code 590 = .ok (.iload_n 3, 1) := by decide +kernel
theorem dL_law_591 : decode code 591 = .ok (.iconst 1, 1) := by decide +kernel
theorem dL_law_592 : decode code 592 = .ok (.iadd, 1) := by decide +kernel
theorem dL_law_593 : decode code 593 = .ok (.iaload, 1) := by decide +kernel
theorem dL_law_594 : decode code 594 = .ok (.aload_n 0, 1) := by decide +kernel
theorem dL_law_595 : decode code 595 = .ok (.iload_n 3, 1) := by decide +kernel
theorem dL_law_596 : decode code 596 = .ok (.iconst 2, 1) := by decide +kernel
theorem dL_law_597 : decode code 597 = .ok (.iadd, 1) := by decide +kernel
theorem dL_law_598 : decode code 598 = .ok (.iaload, 1) := by decide +kernel
theorem dL_law_599 : decode code 599 = .ok (.invokevirtual 56, 3) := by decide +kernel
theorem dL_law_602 : decode code 602 = .ok (.aload_n 2, 1) := by decide +kernel
theorem dL_law_603 : decode code 603 = .ok (.aload_n 0, 1) := by decide +kernel
theorem dL_law_604 : decode code 604 = .ok (.iload_n 3, 1) := by decide +kernel
theorem dL_law_605 : decode code 605 = .ok (.iconst 1, 1) := by decide +kernel
theorem dL_law_606 : decode code 606 = .ok (.iadd, 1) := by decide +kernel
theorem dL_law_607 : decode code 607 = .ok (.iaload, 1) := by decide +kernel
theorem dL_law_608 : decode code 608 = .ok (.aload_n 0, 1) := by decide +kernel
theorem dL_law_609 : decode code 609 = .ok (.iload_n 3, 1) := by decide +kernel
theorem dL_law_610 : decode code 610 = .ok (.iconst 2, 1) := by decide +kernel
theorem dL_law_611 : decode code 611 = .ok (.iadd, 1) := by decide +kernel
theorem dL_law_612 : decode code 612 = .ok (.iaload, 1) := by decide +kernel
theorem dL_law_613 : decode code 613 = .ok (.invokevirtual 59, 3) := by decide +kernel
theorem dL_law_616 : decode code 616 = .ok (.if_icmp .eq 1017, 3) := by decide +kernel
theorem dL_law_619 : decode code 619 = .ok (.iconst 0, 1) := by decide +kernel
theorem dL_law_620 : decode code 620 = .ok (.ireturn, 1) := by decide +kernel
theorem dL_law_621 : decode code 621 = .ok (.aload_n 1, 1) := by decide +kernel
theorem dL_law_622 : decode code 622 = .ok (.aload_n 0, 1) := by decide +kernel
theorem dL_law_623 : decode code 623 = .ok (.iload_n 3, 1) := by decide +kernel
theorem dL_law_624 : decode code 624 = .ok (.iconst 1, 1) := by decide +kernel
theorem dL_law_625 : decode code 625 = .ok (.iadd, 1) := by decide +kernel
theorem dL_law_626 : decode code 626 = .ok (.iaload, 1) := by decide +kernel
theorem dL_law_627 : decode code 627 = .ok (.aload_n 0, 1) := by decide +kernel
theorem dL_law_628 : decode code 628 = .ok (.iload_n 3, 1) := by decide +kernel
theorem dL_law_629 : decode code 629 = .ok (.iconst 2, 1) := by decide +kernel
theorem dL_law_630 : decode code 630 = .ok (.iadd, 1) := by decide +kernel
theorem dL_law_631 : decode code 631 = .ok (.iaload, 1) := by decide +kernel
theorem dL_law_632 : decode code 632 = .ok (.invokevirtual 60, 3) := by decide +kernel
theorem dL_law_635 : decode code 635 = .ok (.aload_n 2, 1) := by decide +kernel
theorem dL_law_636 : decode code 636 = .ok (.aload_n 0, 1) := by decide +kernel
theorem dL_law_637 : decode code 637 = .ok (.iload_n 3, 1) := by decide +kernel
theorem dL_law_638 : decode code 638 = .ok (.iconst 1, 1) := by decide +kernel
theorem dL_law_639 : decode code 639 = .ok (.iadd, 1) := by decide +kernel
theorem dL_law_640 : decode code 640 = .ok (.iaload, 1) := by decide +kernel
theorem dL_law_641 : decode code 641 = .ok (.aload_n 0, 1) := by decide +kernel
theorem dL_law_642 : decode code 642 = .ok (.iload_n 3, 1) := by decide +kernel
theorem dL_law_643 : decode code 643 = .ok (.iconst 2, 1) := by decide +kernel
theorem dL_law_644 : decode code 644 = .ok (.iadd, 1) := by decide +kernel
theorem dL_law_645 : decode code 645 = .ok (.iaload, 1) := by decide +kernel
theorem dL_law_646 : decode code 646 = .ok (.invokevirtual 63, 3) := by decide +kernel
theorem dL_law_649 : decode code 649 = .ok (.if_icmp .eq 984, 3) := by decide +kernel
theorem dL_law_652 : decode code 652 = .ok (.iconst 0, 1) := by decide +kernel
theorem dL_law_653 : decode code 653 = .ok (.ireturn, 1) := by decide +kernel
theorem dL_law_654 : decode code 654 = .ok (.aload_n 1, 1) := by decide +kernel
theorem dL_law_655 : decode code 655 = .ok (.aload_n 0, 1) := by decide +kernel
theorem dL_law_656 : decode code 656 = .ok (.iload_n 3, 1) := by decide +kernel
theorem dL_law_657 : decode code 657 = .ok (.iconst 1, 1) := by decide +kernel
theorem dL_law_658 : decode code 658 = .ok (.iadd, 1) := by decide +kernel
theorem dL_law_659 : decode code 659 = .ok (.iaload, 1) := by decide +kernel
theorem dL_law_660 : decode code 660 = .ok (.i2l, 1) := by decide +kernel
theorem dL_law_661 : decode code 661 = .ok (.bipush 32, 2) := by decide +kernel
theorem dL_law_663 : decode code 663 = .ok (.lshl, 1) := by decide +kernel
theorem dL_law_664 : decode code 664 = .ok (.aload_n 0, 1) := by decide +kernel
theorem dL_law_665 : decode code 665 = .ok (.iload_n 3, 1) := by decide +kernel
theorem dL_law_666 : decode code 666 = .ok (.iconst 2, 1) := by decide +kernel
theorem dL_law_667 : decode code 667 = .ok (.iadd, 1) := by decide +kernel
theorem dL_law_668 : decode code 668 = .ok (.iaload, 1) := by decide +kernel
theorem dL_law_669 : decode code 669 = .ok (.i2l, 1) := by decide +kernel
theorem dL_law_670 : decode code 670 = .ok (.ldc2_w 64, 3) := by decide +kernel
theorem dL_law_673 : decode code 673 = .ok (.land, 1) := by decide +kernel
theorem dL_law_674 : decode code 674 = .ok (.lor, 1) := by decide +kernel
theorem dL_law_675 : decode code 675 = .ok (.aload_n 0, 1) := by decide +kernel
theorem dL_law_676 : decode code 676 = .ok (.iload_n 3, 1) := by decide +kernel
theorem dL_law_677 : decode code 677 = .ok (.iconst 3, 1) := by decide +kernel
theorem dL_law_678 : decode code 678 = .ok (.iadd, 1) := by decide +kernel
theorem dL_law_679 : decode code 679 = .ok (.iaload, 1) := by decide +kernel
theorem dL_law_680 : decode code 680 = .ok (.invokevirtual 66, 3) := by decide +kernel
theorem dL_law_683 : decode code 683 = .ok (.aload_n 2, 1) := by decide +kernel
theorem dL_law_684 : decode code 684 = .ok (.aload_n 0, 1) := by decide +kernel
theorem dL_law_685 : decode code 685 = .ok (.iload_n 3, 1) := by decide +kernel
theorem dL_law_686 : decode code 686 = .ok (.iconst 1, 1) := by decide +kernel
theorem dL_law_687 : decode code 687 = .ok (.iadd, 1) := by decide +kernel
theorem dL_law_688 : decode code 688 = .ok (.iaload, 1) := by decide +kernel
theorem dL_law_689 : decode code 689 = .ok (.i2l, 1) := by decide +kernel
theorem dL_law_690 : decode code 690 = .ok (.bipush 32, 2) := by decide +kernel
theorem dL_law_692 : decode code 692 = .ok (.lshl, 1) := by decide +kernel
theorem dL_law_693 : decode code 693 = .ok (.aload_n 0, 1) := by decide +kernel
theorem dL_law_694 : decode code 694 = .ok (.iload_n 3, 1) := by decide +kernel
theorem dL_law_695 : decode code 695 = .ok (.iconst 2, 1) := by decide +kernel
theorem dL_law_696 : decode code 696 = .ok (.iadd, 1) := by decide +kernel
theorem dL_law_697 : decode code 697 = .ok (.iaload, 1) := by decide +kernel
theorem dL_law_698 : decode code 698 = .ok (.i2l, 1) := by decide +kernel
theorem dL_law_699 : decode code 699 = .ok (.ldc2_w 64, 3) := by decide +kernel
theorem dL_law_702 : decode code 702 = .ok (.land, 1) := by decide +kernel
theorem dL_law_703 : decode code 703 = .ok (.lor, 1) := by decide +kernel
theorem dL_law_704 : decode code 704 = .ok (.aload_n 0, 1) := by decide +kernel
theorem dL_law_705 : decode code 705 = .ok (.iload_n 3, 1) := by decide +kernel
theorem dL_law_706 : decode code 706 = .ok (.iconst 3, 1) := by decide +kernel
theorem dL_law_707 : decode code 707 = .ok (.iadd, 1) := by decide +kernel
theorem dL_law_708 : decode code 708 = .ok (.iaload, 1) := by decide +kernel
theorem dL_law_709 : decode code 709 = .ok (.invokevirtual 70, 3) := by decide +kernel
theorem dL_law_712 : decode code 712 = .ok (.if_icmp .eq 921, 3) := by decide +kernel
theorem dL_law_715 : decode code 715 = .ok (.iconst 0, 1) := by decide +kernel
theorem dL_law_716 : decode code 716 = .ok (.ireturn, 1) := by decide +kernel
theorem dL_law_717 : decode code 717 = .ok (.aload_n 1, 1) := by decide +kernel
theorem dL_law_718 : decode code 718 = .ok (.aload_n 0, 1) := by decide +kernel
theorem dL_law_719 : decode code 719 = .ok (.iload_n 3, 1) := by decide +kernel
theorem dL_law_720 : decode code 720 = .ok (.iconst 1, 1) := by decide +kernel
theorem dL_law_721 : decode code 721 = .ok (.iadd, 1) := by decide +kernel
theorem dL_law_722 : decode code 722 = .ok (.iaload, 1) := by decide +kernel
theorem dL_law_723 : decode code 723 = .ok (.invokevirtual 71, 3) := by decide +kernel
theorem dL_law_726 : decode code 726 = .ok (.aload_n 2, 1) := by decide +kernel
theorem dL_law_727 : decode code 727 = .ok (.aload_n 0, 1) := by decide +kernel
theorem dL_law_728 : decode code 728 = .ok (.iload_n 3, 1) := by decide +kernel
theorem dL_law_729 : decode code 729 = .ok (.iconst 1, 1) := by decide +kernel
theorem dL_law_730 : decode code 730 = .ok (.iadd, 1) := by decide +kernel
theorem dL_law_731 : decode code 731 = .ok (.iaload, 1) := by decide +kernel
theorem dL_law_732 : decode code 732 = .ok (.invokevirtual 74, 3) := by decide +kernel
theorem dL_law_735 : decode code 735 = .ok (.if_icmp .eq 898, 3) := by decide +kernel
theorem dL_law_738 : decode code 738 = .ok (.iconst 0, 1) := by decide +kernel
theorem dL_law_739 : decode code 739 = .ok (.ireturn, 1) := by decide +kernel
theorem dL_law_740 : decode code 740 = .ok (.aload_n 1, 1) := by decide +kernel
theorem dL_law_741 : decode code 741 = .ok (.aload_n 0, 1) := by decide +kernel
theorem dL_law_742 : decode code 742 = .ok (.iload_n 3, 1) := by decide +kernel
theorem dL_law_743 : decode code 743 = .ok (.iconst 1, 1) := by decide +kernel
theorem dL_law_744 : decode code 744 = .ok (.iadd, 1) := by decide +kernel
theorem dL_law_745 : decode code 745 = .ok (.iaload, 1) := by decide +kernel
theorem dL_law_746 : decode code 746 = .ok (.aload_n 0, 1) := by decide +kernel
theorem dL_law_747 : decode code 747 = .ok (.iload_n 3, 1) := by decide +kernel
theorem dL_law_748 : decode code 748 = .ok (.iconst 2, 1) := by decide +kernel
theorem dL_law_749 : decode code 749 = .ok (.iadd, 1) := by decide +kernel
theorem dL_law_750 : decode code 750 = .ok (.iaload, 1) := by decide +kernel
theorem dL_law_751 : decode code 751 = .ok (.aload_n 0, 1) := by decide +kernel
theorem dL_law_752 : decode code 752 = .ok (.iload_n 3, 1) := by decide +kernel
theorem dL_law_753 : decode code 753 = .ok (.iconst 3, 1) := by decide +kernel
theorem dL_law_754 : decode code 754 = .ok (.iadd, 1) := by decide +kernel
theorem dL_law_755 : decode code 755 = .ok (.iaload, 1) := by decide +kernel
theorem dL_law_756 : decode code 756 = .ok (.aload_n 0, 1) := by decide +kernel
theorem dL_law_757 : decode code 757 = .ok (.iload_n 3, 1) := by decide +kernel
theorem dL_law_758 : decode code 758 = .ok (.iconst 4, 1) := by decide +kernel
theorem dL_law_759 : decode code 759 = .ok (.iadd, 1) := by decide +kernel
theorem dL_law_760 : decode code 760 = .ok (.iaload, 1) := by decide +kernel
theorem dL_law_761 : decode code 761 = .ok (.invokevirtual 75, 3) := by decide +kernel
theorem dL_law_764 : decode code 764 = .ok (.aload_n 2, 1) := by decide +kernel
theorem dL_law_765 : decode code 765 = .ok (.aload_n 0, 1) := by decide +kernel
theorem dL_law_766 : decode code 766 = .ok (.iload_n 3, 1) := by decide +kernel
theorem dL_law_767 : decode code 767 = .ok (.iconst 1, 1) := by decide +kernel
theorem dL_law_768 : decode code 768 = .ok (.iadd, 1) := by decide +kernel
theorem dL_law_769 : decode code 769 = .ok (.iaload, 1) := by decide +kernel
theorem dL_law_770 : decode code 770 = .ok (.aload_n 0, 1) := by decide +kernel
theorem dL_law_771 : decode code 771 = .ok (.iload_n 3, 1) := by decide +kernel
theorem dL_law_772 : decode code 772 = .ok (.iconst 2, 1) := by decide +kernel
theorem dL_law_773 : decode code 773 = .ok (.iadd, 1) := by decide +kernel
theorem dL_law_774 : decode code 774 = .ok (.iaload, 1) := by decide +kernel
theorem dL_law_775 : decode code 775 = .ok (.aload_n 0, 1) := by decide +kernel
theorem dL_law_776 : decode code 776 = .ok (.iload_n 3, 1) := by decide +kernel
theorem dL_law_777 : decode code 777 = .ok (.iconst 3, 1) := by decide +kernel
theorem dL_law_778 : decode code 778 = .ok (.iadd, 1) := by decide +kernel
theorem dL_law_779 : decode code 779 = .ok (.iaload, 1) := by decide +kernel
theorem dL_law_780 : decode code 780 = .ok (.aload_n 0, 1) := by decide +kernel
theorem dL_law_781 : decode code 781 = .ok (.iload_n 3, 1) := by decide +kernel
theorem dL_law_782 : decode code 782 = .ok (.iconst 4, 1) := by decide +kernel
theorem dL_law_783 : decode code 783 = .ok (.iadd, 1) := by decide +kernel
theorem dL_law_784 : decode code 784 = .ok (.iaload, 1) := by decide +kernel
theorem dL_law_785 : decode code 785 = .ok (.invokevirtual 79, 3) := by decide +kernel
theorem dL_law_788 : decode code 788 = .ok (.if_icmp .eq 845, 3) := by decide +kernel
theorem dL_law_791 : decode code 791 = .ok (.iconst 0, 1) := by decide +kernel
theorem dL_law_792 : decode code 792 = .ok (.ireturn, 1) := by decide +kernel
theorem dL_law_793 : decode code 793 = .ok (.aload_n 1, 1) := by decide +kernel
theorem dL_law_794 : decode code 794 = .ok (.aload_n 0, 1) := by decide +kernel
theorem dL_law_795 : decode code 795 = .ok (.iload_n 3, 1) := by decide +kernel
theorem dL_law_796 : decode code 796 = .ok (.iconst 1, 1) := by decide +kernel
theorem dL_law_797 : decode code 797 = .ok (.iadd, 1) := by decide +kernel
theorem dL_law_798 : decode code 798 = .ok (.iaload, 1) := by decide +kernel
theorem dL_law_799 : decode code 799 = .ok (.invokevirtual 80, 3) := by decide +kernel
theorem dL_law_802 : decode code 802 = .ok (.aload_n 2, 1) := by decide +kernel
theorem dL_law_803 : decode code 803 = .ok (.aload_n 0, 1) := by decide +kernel
theorem dL_law_804 : decode code 804 = .ok (.iload_n 3, 1) := by decide +kernel
theorem dL_law_805 : decode code 805 = .ok (.iconst 1, 1) := by decide +kernel
theorem dL_law_806 : decode code 806 = .ok (.iadd, 1) := by decide +kernel
theorem dL_law_807 : decode code 807 = .ok (.iaload, 1) := by decide +kernel
theorem dL_law_808 : decode code 808 = .ok (.invokevirtual 83, 3) := by decide +kernel
theorem dL_law_811 : decode code 811 = .ok (.if_icmp .eq 822, 3) := by decide +kernel
theorem dL_law_814 : decode code 814 = .ok (.iconst 0, 1) := by decide +kernel
theorem dL_law_815 : decode code 815 = .ok (.ireturn, 1) := by decide +kernel
theorem dL_law_816 : decode code 816 = .ok (.aload_n 1, 1) := by decide +kernel
theorem dL_law_817 : decode code 817 = .ok (.aload_n 0, 1) := by decide +kernel
theorem dL_law_818 : decode code 818 = .ok (.iload_n 3, 1) := by decide +kernel
theorem dL_law_819 : decode code 819 = .ok (.iconst 1, 1) := by decide +kernel
theorem dL_law_820 : decode code 820 = .ok (.iadd, 1) := by decide +kernel
theorem dL_law_821 : decode code 821 = .ok (.iaload, 1) := by decide +kernel
theorem dL_law_822 : decode code 822 = .ok (.invokevirtual 84, 3) := by decide +kernel
theorem dL_law_825 : decode code 825 = .ok (.aload_n 2, 1) := by decide +kernel
theorem dL_law_826 : decode code 826 = .ok (.aload_n 0, 1) := by decide +kernel
theorem dL_law_827 : decode code 827 = .ok (.iload_n 3, 1) := by decide +kernel
theorem dL_law_828 : decode code 828 = .ok (.iconst 1, 1) := by decide +kernel
theorem dL_law_829 : decode code 829 = .ok (.iadd, 1) := by decide +kernel
theorem dL_law_830 : decode code 830 = .ok (.iaload, 1) := by decide +kernel
theorem dL_law_831 : decode code 831 = .ok (.invokevirtual 87, 3) := by decide +kernel
theorem dL_law_834 : decode code 834 = .ok (.if_icmp .eq 799, 3) := by decide +kernel
theorem dL_law_837 : decode code 837 = .ok (.iconst 0, 1) := by decide +kernel
theorem dL_law_838 : decode code 838 = .ok (.ireturn, 1) := by decide +kernel
theorem dL_law_839 : decode code 839 = .ok (.aload_n 1, 1) := by decide +kernel
theorem dL_law_840 : decode code 840 = .ok (.aload_n 0, 1) := by decide +kernel
theorem dL_law_841 : decode code 841 = .ok (.iload_n 3, 1) := by decide +kernel
theorem dL_law_842 : decode code 842 = .ok (.iconst 1, 1) := by decide +kernel
theorem dL_law_843 : decode code 843 = .ok (.iadd, 1) := by decide +kernel
theorem dL_law_844 : decode code 844 = .ok (.iaload, 1) := by decide +kernel
theorem dL_law_845 : decode code 845 = .ok (.aload_n 0, 1) := by decide +kernel
theorem dL_law_846 : decode code 846 = .ok (.iload_n 3, 1) := by decide +kernel
theorem dL_law_847 : decode code 847 = .ok (.iconst 2, 1) := by decide +kernel
theorem dL_law_848 : decode code 848 = .ok (.iadd, 1) := by decide +kernel
theorem dL_law_849 : decode code 849 = .ok (.iaload, 1) := by decide +kernel
theorem dL_law_850 : decode code 850 = .ok (.invokevirtual 88, 3) := by decide +kernel
theorem dL_law_853 : decode code 853 = .ok (.aload_n 2, 1) := by decide +kernel
theorem dL_law_854 : decode code 854 = .ok (.aload_n 0, 1) := by decide +kernel
theorem dL_law_855 : decode code 855 = .ok (.iload_n 3, 1) := by decide +kernel
theorem dL_law_856 : decode code 856 = .ok (.iconst 1, 1) := by decide +kernel
theorem dL_law_857 : decode code 857 = .ok (.iadd, 1) := by decide +kernel
theorem dL_law_858 : decode code 858 = .ok (.iaload, 1) := by decide +kernel
theorem dL_law_859 : decode code 859 = .ok (.aload_n 0, 1) := by decide +kernel
theorem dL_law_860 : decode code 860 = .ok (.iload_n 3, 1) := by decide +kernel
theorem dL_law_861 : decode code 861 = .ok (.iconst 2, 1) := by decide +kernel
theorem dL_law_862 : decode code 862 = .ok (.iadd, 1) := by decide +kernel
theorem dL_law_863 : decode code 863 = .ok (.iaload, 1) := by decide +kernel
theorem dL_law_864 : decode code 864 = .ok (.invokevirtual 91, 3) := by decide +kernel
theorem dL_law_867 : decode code 867 = .ok (.if_icmp .eq 766, 3) := by decide +kernel
theorem dL_law_870 : decode code 870 = .ok (.iconst 0, 1) := by decide +kernel
theorem dL_law_871 : decode code 871 = .ok (.ireturn, 1) := by decide +kernel
theorem dL_law_872 : decode code 872 = .ok (.aload_n 1, 1) := by decide +kernel
theorem dL_law_873 : decode code 873 = .ok (.invokevirtual 92, 3) := by decide +kernel
theorem dL_law_876 : decode code 876 = .ok (.aload_n 2, 1) := by decide +kernel
theorem dL_law_877 : decode code 877 = .ok (.invokevirtual 96, 3) := by decide +kernel
theorem dL_law_880 : decode code 880 = .ok (.if_icmp .eq 753, 3) := by decide +kernel
theorem dL_law_883 : decode code 883 = .ok (.iconst 0, 1) := by decide +kernel
theorem dL_law_884 : decode code 884 = .ok (.ireturn, 1) := by decide +kernel
theorem dL_law_885 : decode code 885 = .ok (.aload_n 1, 1) := by decide +kernel
theorem dL_law_886 : decode code 886 = .ok (.aload_n 0, 1) := by decide +kernel
theorem dL_law_887 : decode code 887 = .ok (.iload_n 3, 1) := by decide +kernel
theorem dL_law_888 : decode code 888 = .ok (.iconst 1, 1) := by decide +kernel
theorem dL_law_889 : decode code 889 = .ok (.iadd, 1) := by decide +kernel
theorem dL_law_890 : decode code 890 = .ok (.iaload, 1) := by decide +kernel
theorem dL_law_891 : decode code 891 = .ok (.aload_n 0, 1) := by decide +kernel
theorem dL_law_892 : decode code 892 = .ok (.iload_n 3, 1) := by decide +kernel
theorem dL_law_893 : decode code 893 = .ok (.iconst 2, 1) := by decide +kernel
theorem dL_law_894 : decode code 894 = .ok (.iadd, 1) := by decide +kernel
theorem dL_law_895 : decode code 895 = .ok (.iaload, 1) := by decide +kernel
theorem dL_law_896 : decode code 896 = .ok (.invokevirtual 97, 3) := by decide +kernel
theorem dL_law_899 : decode code 899 = .ok (.aload_n 2, 1) := by decide +kernel
theorem dL_law_900 : decode code 900 = .ok (.aload_n 0, 1) := by decide +kernel
theorem dL_law_901 : decode code 901 = .ok (.iload_n 3, 1) := by decide +kernel
theorem dL_law_902 : decode code 902 = .ok (.iconst 1, 1) := by decide +kernel
theorem dL_law_903 : decode code 903 = .ok (.iadd, 1) := by decide +kernel
theorem dL_law_904 : decode code 904 = .ok (.iaload, 1) := by decide +kernel
theorem dL_law_905 : decode code 905 = .ok (.aload_n 0, 1) := by decide +kernel
theorem dL_law_906 : decode code 906 = .ok (.iload_n 3, 1) := by decide +kernel
theorem dL_law_907 : decode code 907 = .ok (.iconst 2, 1) := by decide +kernel
theorem dL_law_908 : decode code 908 = .ok (.iadd, 1) := by decide +kernel
theorem dL_law_909 : decode code 909 = .ok (.iaload, 1) := by decide +kernel
theorem dL_law_910 : decode code 910 = .ok (.invokevirtual 100, 3) := by decide +kernel
theorem dL_law_913 : decode code 913 = .ok (.if_icmp .eq 720, 3) := by decide +kernel
theorem dL_law_916 : decode code 916 = .ok (.iconst 0, 1) := by decide +kernel
theorem dL_law_917 : decode code 917 = .ok (.ireturn, 1) := by decide +kernel
theorem dL_law_918 : decode code 918 = .ok (.aload_n 1, 1) := by decide +kernel
theorem dL_law_919 : decode code 919 = .ok (.aload_n 0, 1) := by decide +kernel
theorem dL_law_920 : decode code 920 = .ok (.iload_n 3, 1) := by decide +kernel
theorem dL_law_921 : decode code 921 = .ok (.iconst 1, 1) := by decide +kernel
theorem dL_law_922 : decode code 922 = .ok (.iadd, 1) := by decide +kernel
theorem dL_law_923 : decode code 923 = .ok (.iaload, 1) := by decide +kernel
theorem dL_law_924 : decode code 924 = .ok (.aload_n 0, 1) := by decide +kernel
theorem dL_law_925 : decode code 925 = .ok (.iload_n 3, 1) := by decide +kernel
theorem dL_law_926 : decode code 926 = .ok (.iconst 2, 1) := by decide +kernel
theorem dL_law_927 : decode code 927 = .ok (.iadd, 1) := by decide +kernel
theorem dL_law_928 : decode code 928 = .ok (.iaload, 1) := by decide +kernel
theorem dL_law_929 : decode code 929 = .ok (.aload_n 0, 1) := by decide +kernel
theorem dL_law_930 : decode code 930 = .ok (.iload_n 3, 1) := by decide +kernel
theorem dL_law_931 : decode code 931 = .ok (.iconst 3, 1) := by decide +kernel
theorem dL_law_932 : decode code 932 = .ok (.iadd, 1) := by decide +kernel
theorem dL_law_933 : decode code 933 = .ok (.iaload, 1) := by decide +kernel
theorem dL_law_934 : decode code 934 = .ok (.invokevirtual 101, 3) := by decide +kernel
theorem dL_law_937 : decode code 937 = .ok (.aload_n 2, 1) := by decide +kernel
theorem dL_law_938 : decode code 938 = .ok (.aload_n 0, 1) := by decide +kernel
theorem dL_law_939 : decode code 939 = .ok (.iload_n 3, 1) := by decide +kernel
theorem dL_law_940 : decode code 940 = .ok (.iconst 1, 1) := by decide +kernel
theorem dL_law_941 : decode code 941 = .ok (.iadd, 1) := by decide +kernel
theorem dL_law_942 : decode code 942 = .ok (.iaload, 1) := by decide +kernel
theorem dL_law_943 : decode code 943 = .ok (.aload_n 0, 1) := by decide +kernel
theorem dL_law_944 : decode code 944 = .ok (.iload_n 3, 1) := by decide +kernel
theorem dL_law_945 : decode code 945 = .ok (.iconst 2, 1) := by decide +kernel
theorem dL_law_946 : decode code 946 = .ok (.iadd, 1) := by decide +kernel
theorem dL_law_947 : decode code 947 = .ok (.iaload, 1) := by decide +kernel
theorem dL_law_948 : decode code 948 = .ok (.aload_n 0, 1) := by decide +kernel
theorem dL_law_949 : decode code 949 = .ok (.iload_n 3, 1) := by decide +kernel
theorem dL_law_950 : decode code 950 = .ok (.iconst 3, 1) := by decide +kernel
theorem dL_law_951 : decode code 951 = .ok (.iadd, 1) := by decide +kernel
theorem dL_law_952 : decode code 952 = .ok (.iaload, 1) := by decide +kernel
theorem dL_law_953 : decode code 953 = .ok (.invokevirtual 104, 3) := by decide +kernel
theorem dL_law_956 : decode code 956 = .ok (.if_icmp .eq 677, 3) := by decide +kernel
theorem dL_law_959 : decode code 959 = .ok (.iconst 0, 1) := by decide +kernel
theorem dL_law_960 : decode code 960 = .ok (.ireturn, 1) := by decide +kernel
theorem dL_law_961 : decode code 961 = .ok (.aload_n 1, 1) := by decide +kernel
theorem dL_law_962 : decode code 962 = .ok (.aload_n 0, 1) := by decide +kernel
theorem dL_law_963 : decode code 963 = .ok (.iload_n 3, 1) := by decide +kernel
theorem dL_law_964 : decode code 964 = .ok (.iconst 1, 1) := by decide +kernel
theorem dL_law_965 : decode code 965 = .ok (.iadd, 1) := by decide +kernel
theorem dL_law_966 : decode code 966 = .ok (.iaload, 1) := by decide +kernel
theorem dL_law_967 : decode code 967 = .ok (.aload_n 0, 1) := by decide +kernel
theorem dL_law_968 : decode code 968 = .ok (.iload_n 3, 1) := by decide +kernel
theorem dL_law_969 : decode code 969 = .ok (.iconst 2, 1) := by decide +kernel
theorem dL_law_970 : decode code 970 = .ok (.iadd, 1) := by decide +kernel
theorem dL_law_971 : decode code 971 = .ok (.iaload, 1) := by decide +kernel
theorem dL_law_972 : decode code 972 = .ok (.invokevirtual 105, 3) := by decide +kernel
theorem dL_law_975 : decode code 975 = .ok (.aload_n 2, 1) := by decide +kernel
theorem dL_law_976 : decode code 976 = .ok (.aload_n 0, 1) := by decide +kernel
theorem dL_law_977 : decode code 977 = .ok (.iload_n 3, 1) := by decide +kernel
theorem dL_law_978 : decode code 978 = .ok (.iconst 1, 1) := by decide +kernel
theorem dL_law_979 : decode code 979 = .ok (.iadd, 1) := by decide +kernel
theorem dL_law_980 : decode code 980 = .ok (.iaload, 1) := by decide +kernel
theorem dL_law_981 : decode code 981 = .ok (.aload_n 0, 1) := by decide +kernel
theorem dL_law_982 : decode code 982 = .ok (.iload_n 3, 1) := by decide +kernel
theorem dL_law_983 : decode code 983 = .ok (.iconst 2, 1) := by decide +kernel
theorem dL_law_984 : decode code 984 = .ok (.iadd, 1) := by decide +kernel
theorem dL_law_985 : decode code 985 = .ok (.iaload, 1) := by decide +kernel
theorem dL_law_986 : decode code 986 = .ok (.invokevirtual 108, 3) := by decide +kernel
theorem dL_law_989 : decode code 989 = .ok (.if_icmp .eq 644, 3) := by decide +kernel
theorem dL_law_992 : decode code 992 = .ok (.iconst 0, 1) := by decide +kernel
theorem dL_law_993 : decode code 993 = .ok (.ireturn, 1) := by decide +kernel
theorem dL_law_994 : decode code 994 = .ok (.aload_n 1, 1) := by decide +kernel
theorem dL_law_995 : decode code 995 = .ok (.aload_n 0, 1) := by decide +kernel
theorem dL_law_996 : decode code 996 = .ok (.iload_n 3, 1) := by decide +kernel
theorem dL_law_997 : decode code 997 = .ok (.iconst 1, 1) := by decide +kernel
theorem dL_law_998 : decode code 998 = .ok (.iadd, 1) := by decide +kernel
theorem dL_law_999 : decode code 999 = .ok (.iaload, 1) := by decide +kernel
theorem dL_law_1000 : decode code 1000 = .ok (.invokevirtual 109, 3) := by decide +kernel
theorem dL_law_1003 : decode code 1003 = .ok (.aload_n 2, 1) := by decide +kernel
theorem dL_law_1004 : decode code 1004 = .ok (.aload_n 0, 1) := by decide +kernel
theorem dL_law_1005 : decode code 1005 = .ok (.iload_n 3, 1) := by decide +kernel
theorem dL_law_1006 : decode code 1006 = .ok (.iconst 1, 1) := by decide +kernel
theorem dL_law_1007 : decode code 1007 = .ok (.iadd, 1) := by decide +kernel
theorem dL_law_1008 : decode code 1008 = .ok (.iaload, 1) := by decide +kernel
theorem dL_law_1009 : decode code 1009 = .ok (.invokevirtual 112, 3) := by decide +kernel
theorem dL_law_1012 : decode code 1012 = .ok (.if_icmp .eq 621, 3) := by decide +kernel
theorem dL_law_1015 : decode code 1015 = .ok (.iconst 0, 1) := by decide +kernel
theorem dL_law_1016 : decode code 1016 = .ok (.ireturn, 1) := by decide +kernel
theorem dL_law_1017 : decode code 1017 = .ok (.aload_n 1, 1) := by decide +kernel
theorem dL_law_1018 : decode code 1018 = .ok (.aload_n 0, 1) := by decide +kernel
theorem dL_law_1019 : decode code 1019 = .ok (.iload_n 3, 1) := by decide +kernel
theorem dL_law_1020 : decode code 1020 = .ok (.iconst 1, 1) := by decide +kernel
theorem dL_law_1021 : decode code 1021 = .ok (.iadd, 1) := by decide +kernel
theorem dL_law_1022 : decode code 1022 = .ok (.iaload, 1) := by decide +kernel
theorem dL_law_1023 : decode code 1023 = .ok (.aload_n 0, 1) := by decide +kernel
theorem dL_law_1024 : decode code 1024 = .ok (.iload_n 3, 1) := by decide +kernel
theorem dL_law_1025 : decode code 1025 = .ok (.iconst 2, 1) := by decide +kernel
theorem dL_law_1026 : decode code 1026 = .ok (.iadd, 1) := by decide +kernel
theorem dL_law_1027 : decode code 1027 = .ok (.iaload, 1) := by decide +kernel
theorem dL_law_1028 : decode code 1028 = .ok (.invokevirtual 113, 3) := by decide +kernel
theorem dL_law_1031 : decode code 1031 = .ok (.aload_n 2, 1) := by decide +kernel
theorem dL_law_1032 : decode code 1032 = .ok (.aload_n 0, 1) := by decide +kernel
theorem dL_law_1033 : decode code 1033 = .ok (.iload_n 3, 1) := by decide +kernel
theorem dL_law_1034 : decode code 1034 = .ok (.iconst 1, 1) := by decide +kernel
theorem dL_law_1035 : decode code 1035 = .ok (.iadd, 1) := by decide +kernel
theorem dL_law_1036 : decode code 1036 = .ok (.iaload, 1) := by decide +kernel
theorem dL_law_1037 : decode code 1037 = .ok (.aload_n 0, 1) := by decide +kernel
theorem dL_law_1038 : decode code 1038 = .ok (.iload_n 3, 1) := by decide +kernel
theorem dL_law_1039 : decode code 1039 = .ok (.iconst 2, 1) := by decide +kernel
theorem dL_law_1040 : decode code 1040 = .ok (.iadd, 1) := by decide +kernel
theorem dL_law_1041 : decode code 1041 = .ok (.iaload, 1) := by decide +kernel
theorem dL_law_1042 : decode code 1042 = .ok (.invokevirtual 116, 3) := by decide +kernel
theorem dL_law_1045 : decode code 1045 = .ok (.if_icmp .eq 588, 3) := by decide +kernel
theorem dL_law_1048 : decode code 1048 = .ok (.iconst 0, 1) := by decide +kernel
theorem dL_law_1049 : decode code 1049 = .ok (.ireturn, 1) := by decide +kernel
theorem dL_law_1050 : decode code 1050 = .ok (.aload_n 1, 1) := by decide +kernel
theorem dL_law_1051 : decode code 1051 = .ok (.aload_n 0, 1) := by decide +kernel
theorem dL_law_1052 : decode code 1052 = .ok (.iload_n 3, 1) := by decide +kernel
theorem dL_law_1053 : decode code 1053 = .ok (.iconst 1, 1) := by decide +kernel
theorem dL_law_1054 : decode code 1054 = .ok (.iadd, 1) := by decide +kernel
theorem dL_law_1055 : decode code 1055 = .ok (.iaload, 1) := by decide +kernel
theorem dL_law_1056 : decode code 1056 = .ok (.aload_n 0, 1) := by decide +kernel
theorem dL_law_1057 : decode code 1057 = .ok (.iload_n 3, 1) := by decide +kernel
theorem dL_law_1058 : decode code 1058 = .ok (.iconst 2, 1) := by decide +kernel
theorem dL_law_1059 : decode code 1059 = .ok (.iadd, 1) := by decide +kernel
theorem dL_law_1060 : decode code 1060 = .ok (.iaload, 1) := by decide +kernel
theorem dL_law_1061 : decode code 1061 = .ok (.invokevirtual 117, 3) := by decide +kernel
theorem dL_law_1064 : decode code 1064 = .ok (.aload_n 2, 1) := by decide +kernel
theorem dL_law_1065 : decode code 1065 = .ok (.aload_n 0, 1) := by decide +kernel
theorem dL_law_1066 : decode code 1066 = .ok (.iload_n 3, 1) := by decide +kernel
theorem dL_law_1067 : decode code 1067 = .ok (.iconst 1, 1) := by decide +kernel
theorem dL_law_1068 : decode code 1068 = .ok (.iadd, 1) := by decide +kernel
theorem dL_law_1069 : decode code 1069 = .ok (.iaload, 1) := by decide +kernel
theorem dL_law_1070 : decode code 1070 = .ok (.aload_n 0, 1) := by decide +kernel
theorem dL_law_1071 : decode code 1071 = .ok (.iload_n 3, 1) := by decide +kernel
theorem dL_law_1072 : decode code 1072 = .ok (.iconst 2, 1) := by decide +kernel
theorem dL_law_1073 : decode code 1073 = .ok (.iadd, 1) := by decide +kernel
theorem dL_law_1074 : decode code 1074 = .ok (.iaload, 1) := by decide +kernel
theorem dL_law_1075 : decode code 1075 = .ok (.invokevirtual 120, 3) := by decide +kernel
theorem dL_law_1078 : decode code 1078 = .ok (.if_icmp .eq 555, 3) := by decide +kernel
theorem dL_law_1081 : decode code 1081 = .ok (.iconst 0, 1) := by decide +kernel
theorem dL_law_1082 : decode code 1082 = .ok (.ireturn, 1) := by decide +kernel
theorem dL_law_1083 : decode code 1083 = .ok (.aload_n 1, 1) := by decide +kernel
theorem dL_law_1084 : decode code 1084 = .ok (.aload_n 0, 1) := by decide +kernel
theorem dL_law_1085 : decode code 1085 = .ok (.iload_n 3, 1) := by decide +kernel
theorem dL_law_1086 : decode code 1086 = .ok (.iconst 1, 1) := by decide +kernel
theorem dL_law_1087 : decode code 1087 = .ok (.iadd, 1) := by decide +kernel
theorem dL_law_1088 : decode code 1088 = .ok (.iaload, 1) := by decide +kernel
theorem dL_law_1089 : decode code 1089 = .ok (.invokevirtual 121, 3) := by decide +kernel
theorem dL_law_1092 : decode code 1092 = .ok (.aload_n 2, 1) := by decide +kernel
theorem dL_law_1093 : decode code 1093 = .ok (.aload_n 0, 1) := by decide +kernel
theorem dL_law_1094 : decode code 1094 = .ok (.iload_n 3, 1) := by decide +kernel
theorem dL_law_1095 : decode code 1095 = .ok (.iconst 1, 1) := by decide +kernel
theorem dL_law_1096 : decode code 1096 = .ok (.iadd, 1) := by decide +kernel
theorem dL_law_1097 : decode code 1097 = .ok (.iaload, 1) := by decide +kernel
theorem dL_law_1098 : decode code 1098 = .ok (.invokevirtual 124, 3) := by decide +kernel
theorem dL_law_1101 : decode code 1101 = .ok (.if_icmp .eq 532, 3) := by decide +kernel
theorem dL_law_1104 : decode code 1104 = .ok (.iconst 0, 1) := by decide +kernel
theorem dL_law_1105 : decode code 1105 = .ok (.ireturn, 1) := by decide +kernel
theorem dL_law_1106 : decode code 1106 = .ok (.aload_n 1, 1) := by decide +kernel
theorem dL_law_1107 : decode code 1107 = .ok (.invokevirtual 125, 3) := by decide +kernel
theorem dL_law_1110 : decode code 1110 = .ok (.aload_n 2, 1) := by decide +kernel
theorem dL_law_1111 : decode code 1111 = .ok (.invokevirtual 128, 3) := by decide +kernel
theorem dL_law_1114 : decode code 1114 = .ok (.if_icmp .eq 519, 3) := by decide +kernel
theorem dL_law_1117 : decode code 1117 = .ok (.iconst 0, 1) := by decide +kernel
theorem dL_law_1118 : decode code 1118 = .ok (.ireturn, 1) := by decide +kernel
theorem dL_law_1119 : decode code 1119 = .ok (.aload_n 1, 1) := by decide +kernel
theorem dL_law_1120 : decode code 1120 = .ok (.aload_n 0, 1) := by decide +kernel
theorem dL_law_1121 : decode code 1121 = .ok (.iload_n 3, 1) := by decide +kernel
theorem dL_law_1122 : decode code 1122 = .ok (.iconst 1, 1) := by decide +kernel
theorem dL_law_1123 : decode code 1123 = .ok (.iadd, 1) := by decide +kernel
theorem dL_law_1124 : decode code 1124 = .ok (.iaload, 1) := by decide +kernel
theorem dL_law_1125 : decode code 1125 = .ok (.aload_n 0, 1) := by decide +kernel
theorem dL_law_1126 : decode code 1126 = .ok (.iload_n 3, 1) := by decide +kernel
theorem dL_law_1127 : decode code 1127 = .ok (.iconst 2, 1) := by decide +kernel
theorem dL_law_1128 : decode code 1128 = .ok (.iadd, 1) := by decide +kernel
theorem dL_law_1129 : decode code 1129 = .ok (.iaload, 1) := by decide +kernel
theorem dL_law_1130 : decode code 1130 = .ok (.invokevirtual 129, 3) := by decide +kernel
theorem dL_law_1133 : decode code 1133 = .ok (.aload_n 2, 1) := by decide +kernel
theorem dL_law_1134 : decode code 1134 = .ok (.aload_n 0, 1) := by decide +kernel
theorem dL_law_1135 : decode code 1135 = .ok (.iload_n 3, 1) := by decide +kernel
theorem dL_law_1136 : decode code 1136 = .ok (.iconst 1, 1) := by decide +kernel
theorem dL_law_1137 : decode code 1137 = .ok (.iadd, 1) := by decide +kernel
theorem dL_law_1138 : decode code 1138 = .ok (.iaload, 1) := by decide +kernel
theorem dL_law_1139 : decode code 1139 = .ok (.aload_n 0, 1) := by decide +kernel
theorem dL_law_1140 : decode code 1140 = .ok (.iload_n 3, 1) := by decide +kernel
theorem dL_law_1141 : decode code 1141 = .ok (.iconst 2, 1) := by decide +kernel
theorem dL_law_1142 : decode code 1142 = .ok (.iadd, 1) := by decide +kernel
theorem dL_law_1143 : decode code 1143 = .ok (.iaload, 1) := by decide +kernel
theorem dL_law_1144 : decode code 1144 = .ok (.invokevirtual 132, 3) := by decide +kernel
theorem dL_law_1147 : decode code 1147 = .ok (.if_icmp .eq 486, 3) := by decide +kernel
theorem dL_law_1150 : decode code 1150 = .ok (.iconst 0, 1) := by decide +kernel
theorem dL_law_1151 : decode code 1151 = .ok (.ireturn, 1) := by decide +kernel
theorem dL_law_1152 : decode code 1152 = .ok (.aload_n 1, 1) := by decide +kernel
theorem dL_law_1153 : decode code 1153 = .ok (.aload_n 0, 1) := by decide +kernel
theorem dL_law_1154 : decode code 1154 = .ok (.iload_n 3, 1) := by decide +kernel
theorem dL_law_1155 : decode code 1155 = .ok (.iconst 1, 1) := by decide +kernel
theorem dL_law_1156 : decode code 1156 = .ok (.iadd, 1) := by decide +kernel
theorem dL_law_1157 : decode code 1157 = .ok (.iaload, 1) := by decide +kernel
theorem dL_law_1158 : decode code 1158 = .ok (.invokevirtual 133, 3) := by decide +kernel
theorem dL_law_1161 : decode code 1161 = .ok (.aload_n 2, 1) := by decide +kernel
theorem dL_law_1162 : decode code 1162 = .ok (.aload_n 0, 1) := by decide +kernel
theorem dL_law_1163 : decode code 1163 = .ok (.iload_n 3, 1) := by decide +kernel
theorem dL_law_1164 : decode code 1164 = .ok (.iconst 1, 1) := by decide +kernel
theorem dL_law_1165 : decode code 1165 = .ok (.iadd, 1) := by decide +kernel
theorem dL_law_1166 : decode code 1166 = .ok (.iaload, 1) := by decide +kernel
theorem dL_law_1167 : decode code 1167 = .ok (.invokevirtual 136, 3) := by decide +kernel
theorem dL_law_1170 : decode code 1170 = .ok (.if_icmp .eq 463, 3) := by decide +kernel
theorem dL_law_1173 : decode code 1173 = .ok (.iconst 0, 1) := by decide +kernel
theorem dL_law_1174 : decode code 1174 = .ok (.ireturn, 1) := by decide +kernel
theorem dL_law_1175 : decode code 1175 = .ok (.aload_n 1, 1) := by decide +kernel
theorem dL_law_1176 : decode code 1176 = .ok (.aload_n 0, 1) := by decide +kernel
theorem dL_law_1177 : decode code 1177 = .ok (.iload_n 3, 1) := by decide +kernel
theorem dL_law_1178 : decode code 1178 = .ok (.iconst 1, 1) := by decide +kernel
theorem dL_law_1179 : decode code 1179 = .ok (.iadd, 1) := by decide +kernel
theorem dL_law_1180 : decode code 1180 = .ok (.iaload, 1) := by decide +kernel
theorem dL_law_1181 : decode code 1181 = .ok (.invokevirtual 137, 3) := by decide +kernel
theorem dL_law_1184 : decode code 1184 = .ok (.aload_n 2, 1) := by decide +kernel
theorem dL_law_1185 : decode code 1185 = .ok (.aload_n 0, 1) := by decide +kernel
theorem dL_law_1186 : decode code 1186 = .ok (.iload_n 3, 1) := by decide +kernel
theorem dL_law_1187 : decode code 1187 = .ok (.iconst 1, 1) := by decide +kernel
theorem dL_law_1188 : decode code 1188 = .ok (.iadd, 1) := by decide +kernel
theorem dL_law_1189 : decode code 1189 = .ok (.iaload, 1) := by decide +kernel
theorem dL_law_1190 : decode code 1190 = .ok (.invokevirtual 140, 3) := by decide +kernel
theorem dL_law_1193 : decode code 1193 = .ok (.if_icmp .eq 440, 3) := by decide +kernel
theorem dL_law_1196 : decode code 1196 = .ok (.iconst 0, 1) := by decide +kernel
theorem dL_law_1197 : decode code 1197 = .ok (.ireturn, 1) := by decide +kernel
theorem dL_law_1198 : decode code 1198 = .ok (.aload_n 1, 1) := by decide +kernel
theorem dL_law_1199 : decode code 1199 = .ok (.aload_n 0, 1) := by decide +kernel
theorem dL_law_1200 : decode code 1200 = .ok (.iload_n 3, 1) := by decide +kernel
theorem dL_law_1201 : decode code 1201 = .ok (.iconst 1, 1) := by decide +kernel
theorem dL_law_1202 : decode code 1202 = .ok (.iadd, 1) := by decide +kernel
theorem dL_law_1203 : decode code 1203 = .ok (.iaload, 1) := by decide +kernel
theorem dL_law_1204 : decode code 1204 = .ok (.aload_n 0, 1) := by decide +kernel
theorem dL_law_1205 : decode code 1205 = .ok (.iload_n 3, 1) := by decide +kernel
theorem dL_law_1206 : decode code 1206 = .ok (.iconst 2, 1) := by decide +kernel
theorem dL_law_1207 : decode code 1207 = .ok (.iadd, 1) := by decide +kernel
theorem dL_law_1208 : decode code 1208 = .ok (.iaload, 1) := by decide +kernel
theorem dL_law_1209 : decode code 1209 = .ok (.aload_n 0, 1) := by decide +kernel
theorem dL_law_1210 : decode code 1210 = .ok (.iload_n 3, 1) := by decide +kernel
theorem dL_law_1211 : decode code 1211 = .ok (.iconst 3, 1) := by decide +kernel
theorem dL_law_1212 : decode code 1212 = .ok (.iadd, 1) := by decide +kernel
theorem dL_law_1213 : decode code 1213 = .ok (.iaload, 1) := by decide +kernel
theorem dL_law_1214 : decode code 1214 = .ok (.invokevirtual 141, 3) := by decide +kernel
theorem dL_law_1217 : decode code 1217 = .ok (.aload_n 2, 1) := by decide +kernel
theorem dL_law_1218 : decode code 1218 = .ok (.aload_n 0, 1) := by decide +kernel
theorem dL_law_1219 : decode code 1219 = .ok (.iload_n 3, 1) := by decide +kernel
theorem dL_law_1220 : decode code 1220 = .ok (.iconst 1, 1) := by decide +kernel
theorem dL_law_1221 : decode code 1221 = .ok (.iadd, 1) := by decide +kernel
theorem dL_law_1222 : decode code 1222 = .ok (.iaload, 1) := by decide +kernel
theorem dL_law_1223 : decode code 1223 = .ok (.aload_n 0, 1) := by decide +kernel
theorem dL_law_1224 : decode code 1224 = .ok (.iload_n 3, 1) := by decide +kernel
theorem dL_law_1225 : decode code 1225 = .ok (.iconst 2, 1) := by decide +kernel
theorem dL_law_1226 : decode code 1226 = .ok (.iadd, 1) := by decide +kernel
theorem dL_law_1227 : decode code 1227 = .ok (.iaload, 1) := by decide +kernel
theorem dL_law_1228 : decode code 1228 = .ok (.aload_n 0, 1) := by decide +kernel
theorem dL_law_1229 : decode code 1229 = .ok (.iload_n 3, 1) := by decide +kernel
theorem dL_law_1230 : decode code 1230 = .ok (.iconst 3, 1) := by decide +kernel
theorem dL_law_1231 : decode code 1231 = .ok (.iadd, 1) := by decide +kernel
theorem dL_law_1232 : decode code 1232 = .ok (.iaload, 1) := by decide +kernel
theorem dL_law_1233 : decode code 1233 = .ok (.invokevirtual 144, 3) := by decide +kernel
theorem dL_law_1236 : decode code 1236 = .ok (.if_icmp .eq 397, 3) := by decide +kernel
theorem dL_law_1239 : decode code 1239 = .ok (.iconst 0, 1) := by decide +kernel
theorem dL_law_1240 : decode code 1240 = .ok (.ireturn, 1) := by decide +kernel
theorem dL_law_1241 : decode code 1241 = .ok (.aload_n 1, 1) := by decide +kernel
theorem dL_law_1242 : decode code 1242 = .ok (.aload_n 0, 1) := by decide +kernel
theorem dL_law_1243 : decode code 1243 = .ok (.iload_n 3, 1) := by decide +kernel
theorem dL_law_1244 : decode code 1244 = .ok (.iconst 1, 1) := by decide +kernel
theorem dL_law_1245 : decode code 1245 = .ok (.iadd, 1) := by decide +kernel
theorem dL_law_1246 : decode code 1246 = .ok (.iaload, 1) := by decide +kernel
theorem dL_law_1247 : decode code 1247 = .ok (.invokevirtual 145, 3) := by decide +kernel
theorem dL_law_1250 : decode code 1250 = .ok (.aload_n 2, 1) := by decide +kernel
theorem dL_law_1251 : decode code 1251 = .ok (.aload_n 0, 1) := by decide +kernel
theorem dL_law_1252 : decode code 1252 = .ok (.iload_n 3, 1) := by decide +kernel
theorem dL_law_1253 : decode code 1253 = .ok (.iconst 1, 1) := by decide +kernel
theorem dL_law_1254 : decode code 1254 = .ok (.iadd, 1) := by decide +kernel
theorem dL_law_1255 : decode code 1255 = .ok (.iaload, 1) := by decide +kernel
theorem dL_law_1256 : decode code 1256 = .ok (.invokevirtual 148, 3) := by decide +kernel
theorem dL_law_1259 : decode code 1259 = .ok (.if_icmp .eq 374, 3) := by decide +kernel
theorem dL_law_1262 : decode code 1262 = .ok (.iconst 0, 1) := by decide +kernel
theorem dL_law_1263 : decode code 1263 = .ok (.ireturn, 1) := by decide +kernel
theorem dL_law_1264 : decode code 1264 = .ok (.aload_n 1, 1) := by decide +kernel
theorem dL_law_1265 : decode code 1265 = .ok (.aload_n 0, 1) := by decide +kernel
theorem dL_law_1266 : decode code 1266 = .ok (.iload_n 3, 1) := by decide +kernel
theorem dL_law_1267 : decode code 1267 = .ok (.iconst 1, 1) := by decide +kernel
theorem dL_law_1268 : decode code 1268 = .ok (.iadd, 1) := by decide +kernel
theorem dL_law_1269 : decode code 1269 = .ok (.iaload, 1) := by decide +kernel
theorem dL_law_1270 : decode code 1270 = .ok (.aload_n 0, 1) := by decide +kernel
theorem dL_law_1271 : decode code 1271 = .ok (.iload_n 3, 1) := by decide +kernel
theorem dL_law_1272 : decode code 1272 = .ok (.iconst 2, 1) := by decide +kernel
theorem dL_law_1273 : decode code 1273 = .ok (.iadd, 1) := by decide +kernel
theorem dL_law_1274 : decode code 1274 = .ok (.iaload, 1) := by decide +kernel
theorem dL_law_1275 : decode code 1275 = .ok (.aload_n 0, 1) := by decide +kernel
theorem dL_law_1276 : decode code 1276 = .ok (.iload_n 3, 1) := by decide +kernel
theorem dL_law_1277 : decode code 1277 = .ok (.iconst 3, 1) := by decide +kernel
theorem dL_law_1278 : decode code 1278 = .ok (.iadd, 1) := by decide +kernel
theorem dL_law_1279 : decode code 1279 = .ok (.iaload, 1) := by decide +kernel
theorem dL_law_1280 : decode code 1280 = .ok (.invokevirtual 149, 3) := by decide +kernel
theorem dL_law_1283 : decode code 1283 = .ok (.aload_n 2, 1) := by decide +kernel
theorem dL_law_1284 : decode code 1284 = .ok (.aload_n 0, 1) := by decide +kernel
theorem dL_law_1285 : decode code 1285 = .ok (.iload_n 3, 1) := by decide +kernel
theorem dL_law_1286 : decode code 1286 = .ok (.iconst 1, 1) := by decide +kernel
theorem dL_law_1287 : decode code 1287 = .ok (.iadd, 1) := by decide +kernel
theorem dL_law_1288 : decode code 1288 = .ok (.iaload, 1) := by decide +kernel
theorem dL_law_1289 : decode code 1289 = .ok (.aload_n 0, 1) := by decide +kernel
theorem dL_law_1290 : decode code 1290 = .ok (.iload_n 3, 1) := by decide +kernel
theorem dL_law_1291 : decode code 1291 = .ok (.iconst 2, 1) := by decide +kernel
theorem dL_law_1292 : decode code 1292 = .ok (.iadd, 1) := by decide +kernel
theorem dL_law_1293 : decode code 1293 = .ok (.iaload, 1) := by decide +kernel
theorem dL_law_1294 : decode code 1294 = .ok (.aload_n 0, 1) := by decide +kernel
theorem dL_law_1295 : decode code 1295 = .ok (.iload_n 3, 1) := by decide +kernel
theorem dL_law_1296 : decode code 1296 = .ok (.iconst 3, 1) := by decide +kernel
theorem dL_law_1297 : decode code 1297 = .ok (.iadd, 1) := by decide +kernel
theorem dL_law_1298 : decode code 1298 = .ok (.iaload, 1) := by decide +kernel
theorem dL_law_1299 : decode code 1299 = .ok (.invokevirtual 152, 3) := by decide +kernel
theorem dL_law_1302 : decode code 1302 = .ok (.if_icmp .eq 331, 3) := by decide +kernel
theorem dL_law_1305 : decode code 1305 = .ok (.iconst 0, 1) := by decide +kernel
theorem dL_law_1306 : decode code 1306 = .ok (.ireturn, 1) := by decide +kernel
theorem dL_law_1307 : decode code 1307 = .ok (.aload_n 1, 1) := by decide +kernel
theorem dL_law_1308 : decode code 1308 = .ok (.aload_n 0, 1) := by decide +kernel
theorem dL_law_1309 : decode code 1309 = .ok (.iload_n 3, 1) := by decide +kernel
theorem dL_law_1310 : decode code 1310 = .ok (.iconst 1, 1) := by decide +kernel
theorem dL_law_1311 : decode code 1311 = .ok (.iadd, 1) := by decide +kernel
theorem dL_law_1312 : decode code 1312 = .ok (.iaload, 1) := by decide +kernel
theorem dL_law_1313 : decode code 1313 = .ok (.invokevirtual 153, 3) := by decide +kernel
theorem dL_law_1316 : decode code 1316 = .ok (.aload_n 2, 1) := by decide +kernel
theorem dL_law_1317 : decode code 1317 = .ok (.aload_n 0, 1) := by decide +kernel
theorem dL_law_1318 : decode code 1318 = .ok (.iload_n 3, 1) := by decide +kernel
theorem dL_law_1319 : decode code 1319 = .ok (.iconst 1, 1) := by decide +kernel
theorem dL_law_1320 : decode code 1320 = .ok (.iadd, 1) := by decide +kernel
theorem dL_law_1321 : decode code 1321 = .ok (.iaload, 1) := by decide +kernel
theorem dL_law_1322 : decode code 1322 = .ok (.invokevirtual 156, 3) := by decide +kernel
theorem dL_law_1325 : decode code 1325 = .ok (.if_icmp .eq 308, 3) := by decide +kernel
theorem dL_law_1328 : decode code 1328 = .ok (.iconst 0, 1) := by decide +kernel
theorem dL_law_1329 : decode code 1329 = .ok (.ireturn, 1) := by decide +kernel
theorem dL_law_1330 : decode code 1330 = .ok (.aload_n 1, 1) := by decide +kernel
theorem dL_law_1331 : decode code 1331 = .ok (.aload_n 0, 1) := by decide +kernel
theorem dL_law_1332 : decode code 1332 = .ok (.iload_n 3, 1) := by decide +kernel
theorem dL_law_1333 : decode code 1333 = .ok (.iconst 1, 1) := by decide +kernel
theorem dL_law_1334 : decode code 1334 = .ok (.iadd, 1) := by decide +kernel
theorem dL_law_1335 : decode code 1335 = .ok (.iaload, 1) := by decide +kernel
theorem dL_law_1336 : decode code 1336 = .ok (.aload_n 0, 1) := by decide +kernel
theorem dL_law_1337 : decode code 1337 = .ok (.iload_n 3, 1) := by decide +kernel
theorem dL_law_1338 : decode code 1338 = .ok (.iconst 2, 1) := by decide +kernel
theorem dL_law_1339 : decode code 1339 = .ok (.iadd, 1) := by decide +kernel
theorem dL_law_1340 : decode code 1340 = .ok (.iaload, 1) := by decide +kernel
theorem dL_law_1341 : decode code 1341 = .ok (.aload_n 0, 1) := by decide +kernel
theorem dL_law_1342 : decode code 1342 = .ok (.iload_n 3, 1) := by decide +kernel
theorem dL_law_1343 : decode code 1343 = .ok (.iconst 3, 1) := by decide +kernel
theorem dL_law_1344 : decode code 1344 = .ok (.iadd, 1) := by decide +kernel
theorem dL_law_1345 : decode code 1345 = .ok (.iaload, 1) := by decide +kernel
theorem dL_law_1346 : decode code 1346 = .ok (.invokevirtual 157, 3) := by decide +kernel
theorem dL_law_1349 : decode code 1349 = .ok (.aload_n 2, 1) := by decide +kernel
theorem dL_law_1350 : decode code 1350 = .ok (.aload_n 0, 1) := by decide +kernel
theorem dL_law_1351 : decode code 1351 = .ok (.iload_n 3, 1) := by decide +kernel
theorem dL_law_1352 : decode code 1352 = .ok (.iconst 1, 1) := by decide +kernel
theorem dL_law_1353 : decode code 1353 = .ok (.iadd, 1) := by decide +kernel
theorem dL_law_1354 : decode code 1354 = .ok (.iaload, 1) := by decide +kernel
theorem dL_law_1355 : decode code 1355 = .ok (.aload_n 0, 1) := by decide +kernel
theorem dL_law_1356 : decode code 1356 = .ok (.iload_n 3, 1) := by decide +kernel
theorem dL_law_1357 : decode code 1357 = .ok (.iconst 2, 1) := by decide +kernel
theorem dL_law_1358 : decode code 1358 = .ok (.iadd, 1) := by decide +kernel
theorem dL_law_1359 : decode code 1359 = .ok (.iaload, 1) := by decide +kernel
theorem dL_law_1360 : decode code 1360 = .ok (.aload_n 0, 1) := by decide +kernel
theorem dL_law_1361 : decode code 1361 = .ok (.iload_n 3, 1) := by decide +kernel
theorem dL_law_1362 : decode code 1362 = .ok (.iconst 3, 1) := by decide +kernel
theorem dL_law_1363 : decode code 1363 = .ok (.iadd, 1) := by decide +kernel
theorem dL_law_1364 : decode code 1364 = .ok (.iaload, 1) := by decide +kernel
theorem dL_law_1365 : decode code 1365 = .ok (.invokevirtual 160, 3) := by decide +kernel
theorem dL_law_1368 : decode code 1368 = .ok (.if_icmp .eq 265, 3) := by decide +kernel
theorem dL_law_1371 : decode code 1371 = .ok (.iconst 0, 1) := by decide +kernel
theorem dL_law_1372 : decode code 1372 = .ok (.ireturn, 1) := by decide +kernel
theorem dL_law_1373 : decode code 1373 = .ok (.aload_n 1, 1) := by decide +kernel
theorem dL_law_1374 : decode code 1374 = .ok (.aload_n 0, 1) := by decide +kernel
theorem dL_law_1375 : decode code 1375 = .ok (.iload_n 3, 1) := by decide +kernel
theorem dL_law_1376 : decode code 1376 = .ok (.iconst 1, 1) := by decide +kernel
theorem dL_law_1377 : decode code 1377 = .ok (.iadd, 1) := by decide +kernel
theorem dL_law_1378 : decode code 1378 = .ok (.iaload, 1) := by decide +kernel
theorem dL_law_1379 : decode code 1379 = .ok (.aload_n 0, 1) := by decide +kernel
theorem dL_law_1380 : decode code 1380 = .ok (.iload_n 3, 1) := by decide +kernel
theorem dL_law_1381 : decode code 1381 = .ok (.iconst 2, 1) := by decide +kernel
theorem dL_law_1382 : decode code 1382 = .ok (.iadd, 1) := by decide +kernel
theorem dL_law_1383 : decode code 1383 = .ok (.iaload, 1) := by decide +kernel
theorem dL_law_1384 : decode code 1384 = .ok (.aload_n 0, 1) := by decide +kernel
theorem dL_law_1385 : decode code 1385 = .ok (.iload_n 3, 1) := by decide +kernel
theorem dL_law_1386 : decode code 1386 = .ok (.iconst 3, 1) := by decide +kernel
theorem dL_law_1387 : decode code 1387 = .ok (.iadd, 1) := by decide +kernel
theorem dL_law_1388 : decode code 1388 = .ok (.iaload, 1) := by decide +kernel
theorem dL_law_1389 : decode code 1389 = .ok (.invokevirtual 161, 3) := by decide +kernel
theorem dL_law_1392 : decode code 1392 = .ok (.aload_n 2, 1) := by decide +kernel
theorem dL_law_1393 : decode code 1393 = .ok (.aload_n 0, 1) := by decide +kernel
theorem dL_law_1394 : decode code 1394 = .ok (.iload_n 3, 1) := by decide +kernel
theorem dL_law_1395 : decode code 1395 = .ok (.iconst 1, 1) := by decide +kernel
theorem dL_law_1396 : decode code 1396 = .ok (.iadd, 1) := by decide +kernel
theorem dL_law_1397 : decode code 1397 = .ok (.iaload, 1) := by decide +kernel
theorem dL_law_1398 : decode code 1398 = .ok (.aload_n 0, 1) := by decide +kernel
theorem dL_law_1399 : decode code 1399 = .ok (.iload_n 3, 1) := by decide +kernel
theorem dL_law_1400 : decode code 1400 = .ok (.iconst 2, 1) := by decide +kernel
theorem dL_law_1401 : decode code 1401 = .ok (.iadd, 1) := by decide +kernel
theorem dL_law_1402 : decode code 1402 = .ok (.iaload, 1) := by decide +kernel
theorem dL_law_1403 : decode code 1403 = .ok (.aload_n 0, 1) := by decide +kernel
theorem dL_law_1404 : decode code 1404 = .ok (.iload_n 3, 1) := by decide +kernel
theorem dL_law_1405 : decode code 1405 = .ok (.iconst 3, 1) := by decide +kernel
theorem dL_law_1406 : decode code 1406 = .ok (.iadd, 1) := by decide +kernel
theorem dL_law_1407 : decode code 1407 = .ok (.iaload, 1) := by decide +kernel
theorem dL_law_1408 : decode code 1408 = .ok (.invokevirtual 164, 3) := by decide +kernel
theorem dL_law_1411 : decode code 1411 = .ok (.if_icmp .eq 222, 3) := by decide +kernel
theorem dL_law_1414 : decode code 1414 = .ok (.iconst 0, 1) := by decide +kernel
theorem dL_law_1415 : decode code 1415 = .ok (.ireturn, 1) := by decide +kernel
theorem dL_law_1416 : decode code 1416 = .ok (.aload_n 1, 1) := by decide +kernel
theorem dL_law_1417 : decode code 1417 = .ok (.aload_n 0, 1) := by decide +kernel
theorem dL_law_1418 : decode code 1418 = .ok (.iload_n 3, 1) := by decide +kernel
theorem dL_law_1419 : decode code 1419 = .ok (.iconst 1, 1) := by decide +kernel
theorem dL_law_1420 : decode code 1420 = .ok (.iadd, 1) := by decide +kernel
theorem dL_law_1421 : decode code 1421 = .ok (.iaload, 1) := by decide +kernel
theorem dL_law_1422 : decode code 1422 = .ok (.aload_n 0, 1) := by decide +kernel
theorem dL_law_1423 : decode code 1423 = .ok (.iload_n 3, 1) := by decide +kernel
theorem dL_law_1424 : decode code 1424 = .ok (.iconst 2, 1) := by decide +kernel
theorem dL_law_1425 : decode code 1425 = .ok (.iadd, 1) := by decide +kernel
theorem dL_law_1426 : decode code 1426 = .ok (.iaload, 1) := by decide +kernel
theorem dL_law_1427 : decode code 1427 = .ok (.aload_n 0, 1) := by decide +kernel
theorem dL_law_1428 : decode code 1428 = .ok (.iload_n 3, 1) := by decide +kernel
theorem dL_law_1429 : decode code 1429 = .ok (.iconst 3, 1) := by decide +kernel
theorem dL_law_1430 : decode code 1430 = .ok (.iadd, 1) := by decide +kernel
theorem dL_law_1431 : decode code 1431 = .ok (.iaload, 1) := by decide +kernel
theorem dL_law_1432 : decode code 1432 = .ok (.aload_n 0, 1) := by decide +kernel
theorem dL_law_1433 : decode code 1433 = .ok (.iload_n 3, 1) := by decide +kernel
theorem dL_law_1434 : decode code 1434 = .ok (.iconst 4, 1) := by decide +kernel
theorem dL_law_1435 : decode code 1435 = .ok (.iadd, 1) := by decide +kernel
theorem dL_law_1436 : decode code 1436 = .ok (.iaload, 1) := by decide +kernel
theorem dL_law_1437 : decode code 1437 = .ok (.aload_n 0, 1) := by decide +kernel
theorem dL_law_1438 : decode code 1438 = .ok (.iload_n 3, 1) := by decide +kernel
theorem dL_law_1439 : decode code 1439 = .ok (.iconst 5, 1) := by decide +kernel
theorem dL_law_1440 : decode code 1440 = .ok (.iadd, 1) := by decide +kernel
theorem dL_law_1441 : decode code 1441 = .ok (.iaload, 1) := by decide +kernel
theorem dL_law_1442 : decode code 1442 = .ok (.invokevirtual 165, 3) := by decide +kernel
theorem dL_law_1445 : decode code 1445 = .ok (.aload_n 2, 1) := by decide +kernel
theorem dL_law_1446 : decode code 1446 = .ok (.aload_n 0, 1) := by decide +kernel
theorem dL_law_1447 : decode code 1447 = .ok (.iload_n 3, 1) := by decide +kernel
theorem dL_law_1448 : decode code 1448 = .ok (.iconst 1, 1) := by decide +kernel
theorem dL_law_1449 : decode code 1449 = .ok (.iadd, 1) := by decide +kernel
theorem dL_law_1450 : decode code 1450 = .ok (.iaload, 1) := by decide +kernel
theorem dL_law_1451 : decode code 1451 = .ok (.aload_n 0, 1) := by decide +kernel
theorem dL_law_1452 : decode code 1452 = .ok (.iload_n 3, 1) := by decide +kernel
theorem dL_law_1453 : decode code 1453 = .ok (.iconst 2, 1) := by decide +kernel
theorem dL_law_1454 : decode code 1454 = .ok (.iadd, 1) := by decide +kernel
theorem dL_law_1455 : decode code 1455 = .ok (.iaload, 1) := by decide +kernel
theorem dL_law_1456 : decode code 1456 = .ok (.aload_n 0, 1) := by decide +kernel
theorem dL_law_1457 : decode code 1457 = .ok (.iload_n 3, 1) := by decide +kernel
theorem dL_law_1458 : decode code 1458 = .ok (.iconst 3, 1) := by decide +kernel
theorem dL_law_1459 : decode code 1459 = .ok (.iadd, 1) := by decide +kernel
theorem dL_law_1460 : decode code 1460 = .ok (.iaload, 1) := by decide +kernel
theorem dL_law_1461 : decode code 1461 = .ok (.aload_n 0, 1) := by decide +kernel
theorem dL_law_1462 : decode code 1462 = .ok (.iload_n 3, 1) := by decide +kernel
theorem dL_law_1463 : decode code 1463 = .ok (.iconst 4, 1) := by decide +kernel
theorem dL_law_1464 : decode code 1464 = .ok (.iadd, 1) := by decide +kernel
theorem dL_law_1465 : decode code 1465 = .ok (.iaload, 1) := by decide +kernel
theorem dL_law_1466 : decode code 1466 = .ok (.aload_n 0, 1) := by decide +kernel
theorem dL_law_1467 : decode code 1467 = .ok (.iload_n 3, 1) := by decide +kernel
theorem dL_law_1468 : decode code 1468 = .ok (.iconst 5, 1) := by decide +kernel
theorem dL_law_1469 : decode code 1469 = .ok (.iadd, 1) := by decide +kernel
theorem dL_law_1470 : decode code 1470 = .ok (.iaload, 1) := by decide +kernel
theorem dL_law_1471 : decode code 1471 = .ok (.invokevirtual 169, 3) := by decide +kernel
theorem dL_law_1474 : decode code 1474 = .ok (.if_icmp .eq 159, 3) := by decide +kernel
theorem dL_law_1477 : decode code 1477 = .ok (.iconst 0, 1) := by decide +kernel
theorem dL_law_1478 : decode code 1478 = .ok (.ireturn, 1) := by decide +kernel
theorem dL_law_1479 : decode code 1479 = .ok (.aload_n 1, 1) := by decide +kernel
theorem dL_law_1480 : decode code 1480 = .ok (.aload_n 0, 1) := by decide +kernel
theorem dL_law_1481 : decode code 1481 = .ok (.iload_n 3, 1) := by decide +kernel
theorem dL_law_1482 : decode code 1482 = .ok (.iconst 1, 1) := by decide +kernel
theorem dL_law_1483 : decode code 1483 = .ok (.iadd, 1) := by decide +kernel
theorem dL_law_1484 : decode code 1484 = .ok (.iaload, 1) := by decide +kernel
theorem dL_law_1485 : decode code 1485 = .ok (.invokevirtual 170, 3) := by decide +kernel
theorem dL_law_1488 : decode code 1488 = .ok (.aload_n 2, 1) := by decide +kernel
theorem dL_law_1489 : decode code 1489 = .ok (.aload_n 0, 1) := by decide +kernel
theorem dL_law_1490 : decode code 1490 = .ok (.iload_n 3, 1) := by decide +kernel
theorem dL_law_1491 : decode code 1491 = .ok (.iconst 1, 1) := by decide +kernel
theorem dL_law_1492 : decode code 1492 = .ok (.iadd, 1) := by decide +kernel
theorem dL_law_1493 : decode code 1493 = .ok (.iaload, 1) := by decide +kernel
theorem dL_law_1494 : decode code 1494 = .ok (.invokevirtual 173, 3) := by decide +kernel
theorem dL_law_1497 : decode code 1497 = .ok (.if_icmp .eq 136, 3) := by decide +kernel
theorem dL_law_1500 : decode code 1500 = .ok (.iconst 0, 1) := by decide +kernel
theorem dL_law_1501 : decode code 1501 = .ok (.ireturn, 1) := by decide +kernel
theorem dL_law_1502 : decode code 1502 = .ok (.aload_n 1, 1) := by decide +kernel
theorem dL_law_1503 : decode code 1503 = .ok (.aload_n 0, 1) := by decide +kernel
theorem dL_law_1504 : decode code 1504 = .ok (.iload_n 3, 1) := by decide +kernel
theorem dL_law_1505 : decode code 1505 = .ok (.iconst 1, 1) := by decide +kernel
theorem dL_law_1506 : decode code 1506 = .ok (.iadd, 1) := by decide +kernel
theorem dL_law_1507 : decode code 1507 = .ok (.iaload, 1) := by decide +kernel
theorem dL_law_1508 : decode code 1508 = .ok (.invokevirtual 174, 3) := by decide +kernel
theorem dL_law_1511 : decode code 1511 = .ok (.aload_n 2, 1) := by decide +kernel
theorem dL_law_1512 : decode code 1512 = .ok (.aload_n 0, 1) := by decide +kernel
theorem dL_law_1513 : decode code 1513 = .ok (.iload_n 3, 1) := by decide +kernel
theorem dL_law_1514 : decode code 1514 = .ok (.iconst 1, 1) := by decide +kernel
theorem dL_law_1515 : decode code 1515 = .ok (.iadd, 1) := by decide +kernel
theorem dL_law_1516 : decode code 1516 = .ok (.iaload, 1) := by decide +kernel
theorem dL_law_1517 : decode code 1517 = .ok (.invokevirtual 177, 3) := by decide +kernel
theorem dL_law_1520 : decode code 1520 = .ok (.if_icmp .eq 113, 3) := by decide +kernel
theorem dL_law_1523 : decode code 1523 = .ok (.iconst 0, 1) := by decide +kernel
theorem dL_law_1524 : decode code 1524 = .ok (.ireturn, 1) := by decide +kernel
theorem dL_law_1525 : decode code 1525 = .ok (.aload_n 1, 1) := by decide +kernel
theorem dL_law_1526 : decode code 1526 = .ok (.invokevirtual 178, 3) := by decide +kernel
theorem dL_law_1529 : decode code 1529 = .ok (.aload_n 2, 1) := by decide +kernel
theorem dL_law_1530 : decode code 1530 = .ok (.invokevirtual 181, 3) := by decide +kernel
theorem dL_law_1533 : decode code 1533 = .ok (.if_icmp .eq 100, 3) := by decide +kernel
theorem dL_law_1536 : decode code 1536 = .ok (.iconst 0, 1) := by decide +kernel
theorem dL_law_1537 : decode code 1537 = .ok (.ireturn, 1) := by decide +kernel
theorem dL_law_1538 : decode code 1538 = .ok (.aload_n 1, 1) := by decide +kernel
theorem dL_law_1539 : decode code 1539 = .ok (.invokevirtual 182, 3) := by decide +kernel
theorem dL_law_1542 : decode code 1542 = .ok (.aload_n 2, 1) := by decide +kernel
theorem dL_law_1543 : decode code 1543 = .ok (.invokevirtual 185, 3) := by decide +kernel
theorem dL_law_1546 : decode code 1546 = .ok (.if_icmp .eq 87, 3) := by decide +kernel
theorem dL_law_1549 : decode code 1549 = .ok (.iconst 0, 1) := by decide +kernel
theorem dL_law_1550 : decode code 1550 = .ok (.ireturn, 1) := by decide +kernel
theorem dL_law_1551 : decode code 1551 = .ok (.aload_n 1, 1) := by decide +kernel
theorem dL_law_1552 : decode code 1552 = .ok (.aload_n 0, 1) := by decide +kernel
theorem dL_law_1553 : decode code 1553 = .ok (.iload_n 3, 1) := by decide +kernel
theorem dL_law_1554 : decode code 1554 = .ok (.iconst 1, 1) := by decide +kernel
theorem dL_law_1555 : decode code 1555 = .ok (.iadd, 1) := by decide +kernel
theorem dL_law_1556 : decode code 1556 = .ok (.iaload, 1) := by decide +kernel
theorem dL_law_1557 : decode code 1557 = .ok (.invokevirtual 186, 3) := by decide +kernel
theorem dL_law_1560 : decode code 1560 = .ok (.aload_n 2, 1) := by decide +kernel
theorem dL_law_1561 : decode code 1561 = .ok (.aload_n 0, 1) := by decide +kernel
theorem dL_law_1562 : decode code 1562 = .ok (.iload_n 3, 1) := by decide +kernel
theorem dL_law_1563 : decode code 1563 = .ok (.iconst 1, 1) := by decide +kernel
theorem dL_law_1564 : decode code 1564 = .ok (.iadd, 1) := by decide +kernel
theorem dL_law_1565 : decode code 1565 = .ok (.iaload, 1) := by decide +kernel
theorem dL_law_1566 : decode code 1566 = .ok (.invokevirtual 189, 3) := by decide +kernel
theorem dL_law_1569 : decode code 1569 = .ok (.if_icmp .eq 64, 3) := by decide +kernel
theorem dL_law_1572 : decode code 1572 = .ok (.iconst 0, 1) := by decide +kernel
theorem dL_law_1573 : decode code 1573 = .ok (.ireturn, 1) := by decide +kernel
theorem dL_law_1574 : decode code 1574 = .ok (.aload_n 1, 1) := by decide +kernel
theorem dL_law_1575 : decode code 1575 = .ok (.invokevirtual 190, 3) := by decide +kernel
theorem dL_law_1578 : decode code 1578 = .ok (.aload_n 2, 1) := by decide +kernel
theorem dL_law_1579 : decode code 1579 = .ok (.invokevirtual 193, 3) := by decide +kernel
theorem dL_law_1582 : decode code 1582 = .ok (.if_icmp .eq 51, 3) := by decide +kernel
theorem dL_law_1585 : decode code 1585 = .ok (.iconst 0, 1) := by decide +kernel
theorem dL_law_1586 : decode code 1586 = .ok (.ireturn, 1) := by decide +kernel
theorem dL_law_1587 : decode code 1587 = .ok (.aload_n 1, 1) := by decide +kernel
theorem dL_law_1588 : decode code 1588 = .ok (.aload_n 0, 1) := by decide +kernel
theorem dL_law_1589 : decode code 1589 = .ok (.iload_n 3, 1) := by decide +kernel
theorem dL_law_1590 : decode code 1590 = .ok (.iconst 1, 1) := by decide +kernel
theorem dL_law_1591 : decode code 1591 = .ok (.iadd, 1) := by decide +kernel
theorem dL_law_1592 : decode code 1592 = .ok (.iaload, 1) := by decide +kernel
theorem dL_law_1593 : decode code 1593 = .ok (.invokevirtual 194, 3) := by decide +kernel
theorem dL_law_1596 : decode code 1596 = .ok (.aload_n 2, 1) := by decide +kernel
theorem dL_law_1597 : decode code 1597 = .ok (.aload_n 0, 1) := by decide +kernel
theorem dL_law_1598 : decode code 1598 = .ok (.iload_n 3, 1) := by decide +kernel
theorem dL_law_1599 : decode code 1599 = .ok (.iconst 1, 1) := by decide +kernel
theorem dL_law_1600 : decode code 1600 = .ok (.iadd, 1) := by decide +kernel
theorem dL_law_1601 : decode code 1601 = .ok (.iaload, 1) := by decide +kernel
theorem dL_law_1602 : decode code 1602 = .ok (.invokevirtual 197, 3) := by decide +kernel
theorem dL_law_1605 : decode code 1605 = .ok (.if_icmp .eq 28, 3) := by decide +kernel
theorem dL_law_1608 : decode code 1608 = .ok (.iconst 0, 1) := by decide +kernel
theorem dL_law_1609 : decode code 1609 = .ok (.ireturn, 1) := by decide +kernel
theorem dL_law_1610 : decode code 1610 = .ok (.aload_n 1, 1) := by decide +kernel
theorem dL_law_1611 : decode code 1611 = .ok (.aload_n 0, 1) := by decide +kernel
theorem dL_law_1612 : decode code 1612 = .ok (.iload_n 3, 1) := by decide +kernel
theorem dL_law_1613 : decode code 1613 = .ok (.iconst 1, 1) := by decide +kernel
theorem dL_law_1614 : decode code 1614 = .ok (.iadd, 1) := by decide +kernel
theorem dL_law_1615 : decode code 1615 = .ok (.iaload, 1) := by decide +kernel
theorem dL_law_1616 : decode code 1616 = .ok (.invokevirtual 198, 3) := by decide +kernel
theorem dL_law_1619 : decode code 1619 = .ok (.aload_n 2, 1) := by decide +kernel
theorem dL_law_1620 : decode code 1620 = .ok (.aload_n 0, 1) := by decide +kernel
theorem dL_law_1621 : decode code 1621 = .ok (.iload_n 3, 1) := by decide +kernel
theorem dL_law_1622 : decode code 1622 = .ok (.iconst 1, 1) := by decide +kernel
theorem dL_law_1623 : decode code 1623 = .ok (.iadd, 1) := by decide +kernel
theorem dL_law_1624 : decode code 1624 = .ok (.iaload, 1) := by decide +kernel
theorem dL_law_1625 : decode code 1625 = .ok (.invokevirtual 201, 3) := by decide +kernel
theorem dL_law_1628 : decode code 1628 = .ok (.if_icmp .eq 5, 3) := by decide +kernel
theorem dL_law_1631 : decode code 1631 = .ok (.iconst 0, 1) := by decide +kernel
theorem dL_law_1632 : decode code 1632 = .ok (.ireturn, 1) := by decide +kernel
theorem dL_law_1633 : decode code 1633 = .ok (.iinc 3 6, 3) := by decide +kernel
theorem dL_law_1636 : decode code 1636 = .ok (.goto (-1618), 3) := by decide +kernel
theorem dL_law_1639 : decode code 1639 = .ok (.iconst 1, 1) := by decide +kernel
theorem dL_law_1640 : decode code 1640 = .ok (.ireturn, 1) := by decide +kernel
section
variable {g : bzGeo} {d nL : Nat} {cc : ByteArray} {x : bzCx} {σ : bzS} {pc : Nat} {lv : List (Nat × Value)} {st : List Value}
theorem cs_L_13 (hF : bzE g d nL cc "BronzeDownLaw" x) {o : Nat} {a1 : Int32} {a2 : Int32} {a3 : Int32} {d2 : Nat} {r0 : Int32} {τ : bzS} (ho : kd o = 9) (hM : ∀ l, Met l yX9_season (Cond.code yX9_season cX9_season 6 (some .int) :: GW) (bzR d2) (va_Pc [.ref (ga g o), .int a1, .int a2, .int a3] (bzP g σ)) (va_Qi (fun (r : Int32) (u : bzS) => r = r0 ∧ u = τ) (bzB g) (gA g)) 0 0 (gA g)) (hroom : d2 + 1 ≤ d) (hst : (st.map fun v => v.category).sum ≤ 8) (hdg : decode cc pc = .ok (.invokevirtual 13, 3)) (K : bzJ g nL x τ (pc + 3) lv (.int r0 :: st)) : bzJ g nL x σ pc lv (.int a3 :: .int a2 :: .int a1 :: .ref (ga g o) :: st) := j_calliV hF (As := [.int a1, .int a2, .int a3]) hM km_L_13 kk_X9_season kn_X9 ki_X9_season kl_X9_season (T := TX9) (N := 8) rfl (by decide) ho rfl (n := 3) ⟨by decide +kernel, by decide +kernel, by decide +kernel⟩ rfl ⟨hroom, by decide⟩ hst hdg K
theorem cs_L_17 (hF : bzE g d nL cc "BronzeDownLaw" x) {o : Nat} {a1 : Int32} {a2 : Int32} {a3 : Int32} {d2 : Nat} {r0 : Int32} {τ : bzS} (ho : kd o = 10) (hM : ∀ l, Met l yX10_season (Cond.code yX10_season cX10_season 4 (some .int) :: GW) (bzR d2) (va_Pc [.ref (ga g o), .int a1, .int a2, .int a3] (bzP g σ)) (va_Qi (fun (r : Int32) (u : bzS) => r = r0 ∧ u = τ) (bzB g) (gA g)) 0 0 (gA g)) (hroom : d2 + 1 ≤ d) (hst : (st.map fun v => v.category).sum ≤ 8) (hdg : decode cc pc = .ok (.invokevirtual 17, 3)) (K : bzJ g nL x τ (pc + 3) lv (.int r0 :: st)) : bzJ g nL x σ pc lv (.int a3 :: .int a2 :: .int a1 :: .ref (ga g o) :: st) := j_calliV hF (As := [.int a1, .int a2, .int a3]) hM km_L_17 kk_X10_season kn_X10 ki_X10_season kl_X10_season (T := TX10) (N := 27) rfl (by decide) ho rfl (n := 3) ⟨by decide +kernel, by decide +kernel, by decide +kernel⟩ rfl ⟨hroom, by decide⟩ hst hdg K
theorem cs_L_18 (hF : bzE g d nL cc "BronzeDownLaw" x) {o : Nat} {a1 : Int32} {a2 : Int32} {d2 : Nat} {r0 : Int32} {τ : bzS} (ho : kd o = 9) (hM : ∀ l, Met l yX9_ofSeason (Cond.code yX9_ofSeason cX9_ofSeason 4 (some .int) :: GW) (bzR d2) (va_Pc [.ref (ga g o), .int a1, .int a2] (bzP g σ)) (va_Qi (fun (r : Int32) (u : bzS) => r = r0 ∧ u = τ) (bzB g) (gA g)) 0 0 (gA g)) (hroom : d2 + 1 ≤ d) (hst : (st.map fun v => v.category).sum ≤ 8) (hdg : decode cc pc = .ok (.invokevirtual 18, 3)) (K : bzJ g nL x τ (pc + 3) lv (.int r0 :: st)) : bzJ g nL x σ pc lv (.int a2 :: .int a1 :: .ref (ga g o) :: st) := j_calliV hF (As := [.int a1, .int a2]) hM km_L_18 kk_X9_ofSeason kn_X9 ki_X9_ofSeason kl_X9_ofSeason (T := TX9) (N := 8) rfl (by decide) ho rfl (n := 2) ⟨by decide +kernel, by decide +kernel, by decide +kernel⟩ rfl ⟨hroom, by decide⟩ hst hdg K
theorem cs_L_22 (hF : bzE g d nL cc "BronzeDownLaw" x) {o : Nat} {a1 : Int32} {a2 : Int32} {d2 : Nat} {r0 : Int32} {τ : bzS} (ho : kd o = 10) (hM : ∀ l, Met l yX10_ofSeason (Cond.code yX10_ofSeason cX10_ofSeason 3 (some .int) :: GW) (bzR d2) (va_Pc [.ref (ga g o), .int a1, .int a2] (bzP g σ)) (va_Qi (fun (r : Int32) (u : bzS) => r = r0 ∧ u = τ) (bzB g) (gA g)) 0 0 (gA g)) (hroom : d2 + 1 ≤ d) (hst : (st.map fun v => v.category).sum ≤ 8) (hdg : decode cc pc = .ok (.invokevirtual 22, 3)) (K : bzJ g nL x τ (pc + 3) lv (.int r0 :: st)) : bzJ g nL x σ pc lv (.int a2 :: .int a1 :: .ref (ga g o) :: st) := j_calliV hF (As := [.int a1, .int a2]) hM km_L_22 kk_X10_ofSeason kn_X10 ki_X10_ofSeason kl_X10_ofSeason (T := TX10) (N := 27) rfl (by decide) ho rfl (n := 2) ⟨by decide +kernel, by decide +kernel, by decide +kernel⟩ rfl ⟨hroom, by decide⟩ hst hdg K
theorem cs_L_23 (hF : bzE g d nL cc "BronzeDownLaw" x) {o : Nat} {a1 : Int32} {a2 : Int32} {d2 : Nat} {r0 : Int32} {τ : bzS} (ho : kd o = 9) (hM : ∀ l, Met l yX9_figure (Cond.code yX9_figure cX9_figure 4 (some .int) :: GW) (bzR d2) (va_Pc [.ref (ga g o), .int a1, .int a2] (bzP g σ)) (va_Qi (fun (r : Int32) (u : bzS) => r = r0 ∧ u = τ) (bzB g) (gA g)) 0 0 (gA g)) (hroom : d2 + 1 ≤ d) (hst : (st.map fun v => v.category).sum ≤ 8) (hdg : decode cc pc = .ok (.invokevirtual 23, 3)) (K : bzJ g nL x τ (pc + 3) lv (.int r0 :: st)) : bzJ g nL x σ pc lv (.int a2 :: .int a1 :: .ref (ga g o) :: st) := j_calliV hF (As := [.int a1, .int a2]) hM km_L_23 kk_X9_figure kn_X9 ki_X9_figure kl_X9_figure (T := TX9) (N := 8) rfl (by decide) ho rfl (n := 2) ⟨by decide +kernel, by decide +kernel, by decide +kernel⟩ rfl ⟨hroom, by decide⟩ hst hdg K
theorem cs_L_26 (hF : bzE g d nL cc "BronzeDownLaw" x) {o : Nat} {a1 : Int32} {a2 : Int32} {d2 : Nat} {r0 : Int32} {τ : bzS} (ho : kd o = 10) (hM : ∀ l, Met l yX10_figure (Cond.code yX10_figure cX10_figure 3 (some .int) :: GW) (bzR d2) (va_Pc [.ref (ga g o), .int a1, .int a2] (bzP g σ)) (va_Qi (fun (r : Int32) (u : bzS) => r = r0 ∧ u = τ) (bzB g) (gA g)) 0 0 (gA g)) (hroom : d2 + 1 ≤ d) (hst : (st.map fun v => v.category).sum ≤ 8) (hdg : decode cc pc = .ok (.invokevirtual 26, 3)) (K : bzJ g nL x τ (pc + 3) lv (.int r0 :: st)) : bzJ g nL x σ pc lv (.int a2 :: .int a1 :: .ref (ga g o) :: st) := j_calliV hF (As := [.int a1, .int a2]) hM km_L_26 kk_X10_figure kn_X10 ki_X10_figure kl_X10_figure (T := TX10) (N := 27) rfl (by decide) ho rfl (n := 2) ⟨by decide +kernel, by decide +kernel, by decide +kernel⟩ rfl ⟨hroom, by decide⟩ hst hdg K
theorem cs_L_27 (hF : bzE g d nL cc "BronzeDownLaw" x) {o : Nat} {a1 : Int32} {d2 : Nat} {r0 : Int32} {τ : bzS} (ho : kd o = 9) (hM : ∀ l, Met l yX9_ofFigure (Cond.code yX9_ofFigure cX9_ofFigure 2 (some .int) :: GW) (bzR d2) (va_Pc [.ref (ga g o), .int a1] (bzP g σ)) (va_Qi (fun (r : Int32) (u : bzS) => r = r0 ∧ u = τ) (bzB g) (gA g)) 0 0 (gA g)) (hroom : d2 + 1 ≤ d) (hst : (st.map fun v => v.category).sum ≤ 8) (hdg : decode cc pc = .ok (.invokevirtual 27, 3)) (K : bzJ g nL x τ (pc + 3) lv (.int r0 :: st)) : bzJ g nL x σ pc lv (.int a1 :: .ref (ga g o) :: st) := j_calliV hF (As := [.int a1]) hM km_L_27 kk_X9_ofFigure kn_X9 ki_X9_ofFigure kl_X9_ofFigure (T := TX9) (N := 8) rfl (by decide) ho rfl (n := 1) ⟨by decide +kernel, by decide +kernel, by decide +kernel⟩ rfl ⟨hroom, by decide⟩ hst hdg K
theorem cs_L_31 (hF : bzE g d nL cc "BronzeDownLaw" x) {o : Nat} {a1 : Int32} {d2 : Nat} {r0 : Int32} {τ : bzS} (ho : kd o = 10) (hM : ∀ l, Met l yX10_ofFigure (Cond.code yX10_ofFigure cX10_ofFigure 2 (some .int) :: GW) (bzR d2) (va_Pc [.ref (ga g o), .int a1] (bzP g σ)) (va_Qi (fun (r : Int32) (u : bzS) => r = r0 ∧ u = τ) (bzB g) (gA g)) 0 0 (gA g)) (hroom : d2 + 1 ≤ d) (hst : (st.map fun v => v.category).sum ≤ 8) (hdg : decode cc pc = .ok (.invokevirtual 31, 3)) (K : bzJ g nL x τ (pc + 3) lv (.int r0 :: st)) : bzJ g nL x σ pc lv (.int a1 :: .ref (ga g o) :: st) := j_calliV hF (As := [.int a1]) hM km_L_31 kk_X10_ofFigure kn_X10 ki_X10_ofFigure kl_X10_ofFigure (T := TX10) (N := 27) rfl (by decide) ho rfl (n := 1) ⟨by decide +kernel, by decide +kernel, by decide +kernel⟩ rfl ⟨hroom, by decide⟩ hst hdg K
theorem cs_L_32 (hF : bzE g d nL cc "BronzeDownLaw" x) {o : Nat} {a1 : Int32} {a2 : Int32} {a3 : Int32} {d2 : Nat} {r0 : Int32} {τ : bzS} (ho : kd o = 9) (hM : ∀ l, Met l yX9_step (Cond.code yX9_step cX9_step 6 (some .int) :: GW) (bzR d2) (va_Pc [.ref (ga g o), .int a1, .int a2, .int a3] (bzP g σ)) (va_Qi (fun (r : Int32) (u : bzS) => r = r0 ∧ u = τ) (bzB g) (gA g)) 0 0 (gA g)) (hroom : d2 + 1 ≤ d) (hst : (st.map fun v => v.category).sum ≤ 8) (hdg : decode cc pc = .ok (.invokevirtual 32, 3)) (K : bzJ g nL x τ (pc + 3) lv (.int r0 :: st)) : bzJ g nL x σ pc lv (.int a3 :: .int a2 :: .int a1 :: .ref (ga g o) :: st) := j_calliV hF (As := [.int a1, .int a2, .int a3]) hM km_L_32 kk_X9_step kn_X9 ki_X9_step kl_X9_step (T := TX9) (N := 8) rfl (by decide) ho rfl (n := 3) ⟨by decide +kernel, by decide +kernel, by decide +kernel⟩ rfl ⟨hroom, by decide⟩ hst hdg K
theorem cs_L_35 (hF : bzE g d nL cc "BronzeDownLaw" x) {o : Nat} {a1 : Int32} {a2 : Int32} {a3 : Int32} {d2 : Nat} {r0 : Int32} {τ : bzS} (ho : kd o = 10) (hM : ∀ l, Met l yX10_step (Cond.code yX10_step cX10_step 4 (some .int) :: GW) (bzR d2) (va_Pc [.ref (ga g o), .int a1, .int a2, .int a3] (bzP g σ)) (va_Qi (fun (r : Int32) (u : bzS) => r = r0 ∧ u = τ) (bzB g) (gA g)) 0 0 (gA g)) (hroom : d2 + 1 ≤ d) (hst : (st.map fun v => v.category).sum ≤ 8) (hdg : decode cc pc = .ok (.invokevirtual 35, 3)) (K : bzJ g nL x τ (pc + 3) lv (.int r0 :: st)) : bzJ g nL x σ pc lv (.int a3 :: .int a2 :: .int a1 :: .ref (ga g o) :: st) := j_calliV hF (As := [.int a1, .int a2, .int a3]) hM km_L_35 kk_X10_step kn_X10 ki_X10_step kl_X10_step (T := TX10) (N := 27) rfl (by decide) ho rfl (n := 3) ⟨by decide +kernel, by decide +kernel, by decide +kernel⟩ rfl ⟨hroom, by decide⟩ hst hdg K
theorem cs_L_36 (hF : bzE g d nL cc "BronzeDownLaw" x) {o : Nat} {a1 : Int32} {a2 : Int32} {d2 : Nat} {r0 : Int32} {τ : bzS} (ho : kd o = 9) (hM : ∀ l, Met l yX9_ofStep (Cond.code yX9_ofStep cX9_ofStep 4 (some .int) :: GW) (bzR d2) (va_Pc [.ref (ga g o), .int a1, .int a2] (bzP g σ)) (va_Qi (fun (r : Int32) (u : bzS) => r = r0 ∧ u = τ) (bzB g) (gA g)) 0 0 (gA g)) (hroom : d2 + 1 ≤ d) (hst : (st.map fun v => v.category).sum ≤ 8) (hdg : decode cc pc = .ok (.invokevirtual 36, 3)) (K : bzJ g nL x τ (pc + 3) lv (.int r0 :: st)) : bzJ g nL x σ pc lv (.int a2 :: .int a1 :: .ref (ga g o) :: st) := j_calliV hF (As := [.int a1, .int a2]) hM km_L_36 kk_X9_ofStep kn_X9 ki_X9_ofStep kl_X9_ofStep (T := TX9) (N := 8) rfl (by decide) ho rfl (n := 2) ⟨by decide +kernel, by decide +kernel, by decide +kernel⟩ rfl ⟨hroom, by decide⟩ hst hdg K
theorem cs_L_39 (hF : bzE g d nL cc "BronzeDownLaw" x) {o : Nat} {a1 : Int32} {a2 : Int32} {d2 : Nat} {r0 : Int32} {τ : bzS} (ho : kd o = 10) (hM : ∀ l, Met l yX10_ofStep (Cond.code yX10_ofStep cX10_ofStep 3 (some .int) :: GW) (bzR d2) (va_Pc [.ref (ga g o), .int a1, .int a2] (bzP g σ)) (va_Qi (fun (r : Int32) (u : bzS) => r = r0 ∧ u = τ) (bzB g) (gA g)) 0 0 (gA g)) (hroom : d2 + 1 ≤ d) (hst : (st.map fun v => v.category).sum ≤ 8) (hdg : decode cc pc = .ok (.invokevirtual 39, 3)) (K : bzJ g nL x τ (pc + 3) lv (.int r0 :: st)) : bzJ g nL x σ pc lv (.int a2 :: .int a1 :: .ref (ga g o) :: st) := j_calliV hF (As := [.int a1, .int a2]) hM km_L_39 kk_X10_ofStep kn_X10 ki_X10_ofStep kl_X10_ofStep (T := TX10) (N := 27) rfl (by decide) ho rfl (n := 2) ⟨by decide +kernel, by decide +kernel, by decide +kernel⟩ rfl ⟨hroom, by decide⟩ hst hdg K
theorem cs_L_40 (hF : bzE g d nL cc "BronzeDownLaw" x) {o : Nat} {a1 : Int32} {a2 : Int32} {d2 : Nat} {r0 : Int32} {τ : bzS} (ho : kd o = 9) (hM : ∀ l, Met l yX9_trees (Cond.code yX9_trees cX9_trees 5 (some .int) :: GW) (bzR d2) (va_Pc [.ref (ga g o), .int a1, .int a2] (bzP g σ)) (va_Qi (fun (r : Int32) (u : bzS) => r = r0 ∧ u = τ) (bzB g) (gA g)) 0 0 (gA g)) (hroom : d2 + 1 ≤ d) (hst : (st.map fun v => v.category).sum ≤ 8) (hdg : decode cc pc = .ok (.invokevirtual 40, 3)) (K : bzJ g nL x τ (pc + 3) lv (.int r0 :: st)) : bzJ g nL x σ pc lv (.int a2 :: .int a1 :: .ref (ga g o) :: st) := j_calliV hF (As := [.int a1, .int a2]) hM km_L_40 kk_X9_trees kn_X9 ki_X9_trees kl_X9_trees (T := TX9) (N := 8) rfl (by decide) ho rfl (n := 2) ⟨by decide +kernel, by decide +kernel, by decide +kernel⟩ rfl ⟨hroom, by decide⟩ hst hdg K
theorem cs_L_43 (hF : bzE g d nL cc "BronzeDownLaw" x) {o : Nat} {a1 : Int32} {a2 : Int32} {d2 : Nat} {r0 : Int32} {τ : bzS} (ho : kd o = 10) (hM : ∀ l, Met l yX10_trees (Cond.code yX10_trees cX10_trees 3 (some .int) :: GW) (bzR d2) (va_Pc [.ref (ga g o), .int a1, .int a2] (bzP g σ)) (va_Qi (fun (r : Int32) (u : bzS) => r = r0 ∧ u = τ) (bzB g) (gA g)) 0 0 (gA g)) (hroom : d2 + 1 ≤ d) (hst : (st.map fun v => v.category).sum ≤ 8) (hdg : decode cc pc = .ok (.invokevirtual 43, 3)) (K : bzJ g nL x τ (pc + 3) lv (.int r0 :: st)) : bzJ g nL x σ pc lv (.int a2 :: .int a1 :: .ref (ga g o) :: st) := j_calliV hF (As := [.int a1, .int a2]) hM km_L_43 kk_X10_trees kn_X10 ki_X10_trees kl_X10_trees (T := TX10) (N := 27) rfl (by decide) ho rfl (n := 2) ⟨by decide +kernel, by decide +kernel, by decide +kernel⟩ rfl ⟨hroom, by decide⟩ hst hdg K
theorem cs_L_44 (hF : bzE g d nL cc "BronzeDownLaw" x) {o : Nat} {a1 : Int32} {a2 : Int32} {a3 : Int32} {d2 : Nat} {r0 : Int32} {τ : bzS} (ho : kd o = 9) (hM : ∀ l, Met l yX9_visitor (Cond.code yX9_visitor cX9_visitor 5 (some .int) :: GW) (bzR d2) (va_Pc [.ref (ga g o), .int a1, .int a2, .int a3] (bzP g σ)) (va_Qi (fun (r : Int32) (u : bzS) => r = r0 ∧ u = τ) (bzB g) (gA g)) 0 0 (gA g)) (hroom : d2 + 1 ≤ d) (hst : (st.map fun v => v.category).sum ≤ 8) (hdg : decode cc pc = .ok (.invokevirtual 44, 3)) (K : bzJ g nL x τ (pc + 3) lv (.int r0 :: st)) : bzJ g nL x σ pc lv (.int a3 :: .int a2 :: .int a1 :: .ref (ga g o) :: st) := j_calliV hF (As := [.int a1, .int a2, .int a3]) hM km_L_44 kk_X9_visitor kn_X9 ki_X9_visitor kl_X9_visitor (T := TX9) (N := 8) rfl (by decide) ho rfl (n := 3) ⟨by decide +kernel, by decide +kernel, by decide +kernel⟩ rfl ⟨hroom, by decide⟩ hst hdg K
theorem cs_L_47 (hF : bzE g d nL cc "BronzeDownLaw" x) {o : Nat} {a1 : Int32} {a2 : Int32} {a3 : Int32} {d2 : Nat} {r0 : Int32} {τ : bzS} (ho : kd o = 10) (hM : ∀ l, Met l yX10_visitor (Cond.code yX10_visitor cX10_visitor 5 (some .int) :: GW) (bzR d2) (va_Pc [.ref (ga g o), .int a1, .int a2, .int a3] (bzP g σ)) (va_Qi (fun (r : Int32) (u : bzS) => r = r0 ∧ u = τ) (bzB g) (gA g)) 0 0 (gA g)) (hroom : d2 + 1 ≤ d) (hst : (st.map fun v => v.category).sum ≤ 8) (hdg : decode cc pc = .ok (.invokevirtual 47, 3)) (K : bzJ g nL x τ (pc + 3) lv (.int r0 :: st)) : bzJ g nL x σ pc lv (.int a3 :: .int a2 :: .int a1 :: .ref (ga g o) :: st) := j_calliV hF (As := [.int a1, .int a2, .int a3]) hM km_L_47 kk_X10_visitor kn_X10 ki_X10_visitor kl_X10_visitor (T := TX10) (N := 27) rfl (by decide) ho rfl (n := 3) ⟨by decide +kernel, by decide +kernel, by decide +kernel⟩ rfl ⟨hroom, by decide⟩ hst hdg K
theorem cs_L_48 (hF : bzE g d nL cc "BronzeDownLaw" x) {o : Nat} {a1 : Int32} {a2 : Int32} {d2 : Nat} {r0 : Int32} {τ : bzS} (ho : kd o = 9) (hM : ∀ l, Met l yX9_ofVisitor (Cond.code yX9_ofVisitor cX9_ofVisitor 4 (some .int) :: GW) (bzR d2) (va_Pc [.ref (ga g o), .int a1, .int a2] (bzP g σ)) (va_Qi (fun (r : Int32) (u : bzS) => r = r0 ∧ u = τ) (bzB g) (gA g)) 0 0 (gA g)) (hroom : d2 + 1 ≤ d) (hst : (st.map fun v => v.category).sum ≤ 8) (hdg : decode cc pc = .ok (.invokevirtual 48, 3)) (K : bzJ g nL x τ (pc + 3) lv (.int r0 :: st)) : bzJ g nL x σ pc lv (.int a2 :: .int a1 :: .ref (ga g o) :: st) := j_calliV hF (As := [.int a1, .int a2]) hM km_L_48 kk_X9_ofVisitor kn_X9 ki_X9_ofVisitor kl_X9_ofVisitor (T := TX9) (N := 8) rfl (by decide) ho rfl (n := 2) ⟨by decide +kernel, by decide +kernel, by decide +kernel⟩ rfl ⟨hroom, by decide⟩ hst hdg K
theorem cs_L_51 (hF : bzE g d nL cc "BronzeDownLaw" x) {o : Nat} {a1 : Int32} {a2 : Int32} {d2 : Nat} {r0 : Int32} {τ : bzS} (ho : kd o = 10) (hM : ∀ l, Met l yX10_ofVisitor (Cond.code yX10_ofVisitor cX10_ofVisitor 3 (some .int) :: GW) (bzR d2) (va_Pc [.ref (ga g o), .int a1, .int a2] (bzP g σ)) (va_Qi (fun (r : Int32) (u : bzS) => r = r0 ∧ u = τ) (bzB g) (gA g)) 0 0 (gA g)) (hroom : d2 + 1 ≤ d) (hst : (st.map fun v => v.category).sum ≤ 8) (hdg : decode cc pc = .ok (.invokevirtual 51, 3)) (K : bzJ g nL x τ (pc + 3) lv (.int r0 :: st)) : bzJ g nL x σ pc lv (.int a2 :: .int a1 :: .ref (ga g o) :: st) := j_calliV hF (As := [.int a1, .int a2]) hM km_L_51 kk_X10_ofVisitor kn_X10 ki_X10_ofVisitor kl_X10_ofVisitor (T := TX10) (N := 27) rfl (by decide) ho rfl (n := 2) ⟨by decide +kernel, by decide +kernel, by decide +kernel⟩ rfl ⟨hroom, by decide⟩ hst hdg K
theorem cs_L_52 (hF : bzE g d nL cc "BronzeDownLaw" x) {o : Nat} {a1 : Int32} {a2 : Int32} {a3 : Int32} {d2 : Nat} {r0 : Int32} {τ : bzS} (ho : kd o = 9) (hM : ∀ l, Met l yX9_change (Cond.code yX9_change cX9_change 8 (some .int) :: GW) (bzR d2) (va_Pc [.ref (ga g o), .int a1, .int a2, .int a3] (bzP g σ)) (va_Qi (fun (r : Int32) (u : bzS) => r = r0 ∧ u = τ) (bzB g) (gA g)) 0 0 (gA g)) (hroom : d2 + 1 ≤ d) (hst : (st.map fun v => v.category).sum ≤ 8) (hdg : decode cc pc = .ok (.invokevirtual 52, 3)) (K : bzJ g nL x τ (pc + 3) lv (.int r0 :: st)) : bzJ g nL x σ pc lv (.int a3 :: .int a2 :: .int a1 :: .ref (ga g o) :: st) := j_calliV hF (As := [.int a1, .int a2, .int a3]) hM km_L_52 kk_X9_change kn_X9 ki_X9_change kl_X9_change (T := TX9) (N := 8) rfl (by decide) ho rfl (n := 3) ⟨by decide +kernel, by decide +kernel, by decide +kernel⟩ rfl ⟨hroom, by decide⟩ hst hdg K
theorem cs_L_55 (hF : bzE g d nL cc "BronzeDownLaw" x) {o : Nat} {a1 : Int32} {a2 : Int32} {a3 : Int32} {d2 : Nat} {r0 : Int32} {τ : bzS} (ho : kd o = 10) (hM : ∀ l, Met l yX10_change (Cond.code yX10_change cX10_change 5 (some .int) :: GW) (bzR d2) (va_Pc [.ref (ga g o), .int a1, .int a2, .int a3] (bzP g σ)) (va_Qi (fun (r : Int32) (u : bzS) => r = r0 ∧ u = τ) (bzB g) (gA g)) 0 0 (gA g)) (hroom : d2 + 1 ≤ d) (hst : (st.map fun v => v.category).sum ≤ 8) (hdg : decode cc pc = .ok (.invokevirtual 55, 3)) (K : bzJ g nL x τ (pc + 3) lv (.int r0 :: st)) : bzJ g nL x σ pc lv (.int a3 :: .int a2 :: .int a1 :: .ref (ga g o) :: st) := j_calliV hF (As := [.int a1, .int a2, .int a3]) hM km_L_55 kk_X10_change kn_X10 ki_X10_change kl_X10_change (T := TX10) (N := 27) rfl (by decide) ho rfl (n := 3) ⟨by decide +kernel, by decide +kernel, by decide +kernel⟩ rfl ⟨hroom, by decide⟩ hst hdg K
theorem cs_L_56 (hF : bzE g d nL cc "BronzeDownLaw" x) {o : Nat} {a1 : Int32} {a2 : Int32} {d2 : Nat} {r0 : Int32} {τ : bzS} (ho : kd o = 9) (hM : ∀ l, Met l yX9_become (Cond.code yX9_become cX9_become 5 (some .int) :: GW) (bzR d2) (va_Pc [.ref (ga g o), .int a1, .int a2] (bzP g σ)) (va_Qi (fun (r : Int32) (u : bzS) => r = r0 ∧ u = τ) (bzB g) (gA g)) 0 0 (gA g)) (hroom : d2 + 1 ≤ d) (hst : (st.map fun v => v.category).sum ≤ 8) (hdg : decode cc pc = .ok (.invokevirtual 56, 3)) (K : bzJ g nL x τ (pc + 3) lv (.int r0 :: st)) : bzJ g nL x σ pc lv (.int a2 :: .int a1 :: .ref (ga g o) :: st) := j_calliV hF (As := [.int a1, .int a2]) hM km_L_56 kk_X9_become kn_X9 ki_X9_become kl_X9_become (T := TX9) (N := 8) rfl (by decide) ho rfl (n := 2) ⟨by decide +kernel, by decide +kernel, by decide +kernel⟩ rfl ⟨hroom, by decide⟩ hst hdg K
theorem cs_L_59 (hF : bzE g d nL cc "BronzeDownLaw" x) {o : Nat} {a1 : Int32} {a2 : Int32} {d2 : Nat} {r0 : Int32} {τ : bzS} (ho : kd o = 10) (hM : ∀ l, Met l yX10_become (Cond.code yX10_become cX10_become 3 (some .int) :: GW) (bzR d2) (va_Pc [.ref (ga g o), .int a1, .int a2] (bzP g σ)) (va_Qi (fun (r : Int32) (u : bzS) => r = r0 ∧ u = τ) (bzB g) (gA g)) 0 0 (gA g)) (hroom : d2 + 1 ≤ d) (hst : (st.map fun v => v.category).sum ≤ 8) (hdg : decode cc pc = .ok (.invokevirtual 59, 3)) (K : bzJ g nL x τ (pc + 3) lv (.int r0 :: st)) : bzJ g nL x σ pc lv (.int a2 :: .int a1 :: .ref (ga g o) :: st) := j_calliV hF (As := [.int a1, .int a2]) hM km_L_59 kk_X10_become kn_X10 ki_X10_become kl_X10_become (T := TX10) (N := 27) rfl (by decide) ho rfl (n := 2) ⟨by decide +kernel, by decide +kernel, by decide +kernel⟩ rfl ⟨hroom, by decide⟩ hst hdg K
theorem cs_L_60 (hF : bzE g d nL cc "BronzeDownLaw" x) {o : Nat} {a1 : Int32} {a2 : Int32} {d2 : Nat} {r0 : Int32} {τ : bzS} (ho : kd o = 9) (hM : ∀ l, Met l yX9_as (Cond.code yX9_as cX9_as 4 (some .int) :: GW) (bzR d2) (va_Pc [.ref (ga g o), .int a1, .int a2] (bzP g σ)) (va_Qi (fun (r : Int32) (u : bzS) => r = r0 ∧ u = τ) (bzB g) (gA g)) 0 0 (gA g)) (hroom : d2 + 1 ≤ d) (hst : (st.map fun v => v.category).sum ≤ 8) (hdg : decode cc pc = .ok (.invokevirtual 60, 3)) (K : bzJ g nL x τ (pc + 3) lv (.int r0 :: st)) : bzJ g nL x σ pc lv (.int a2 :: .int a1 :: .ref (ga g o) :: st) := j_calliV hF (As := [.int a1, .int a2]) hM km_L_60 kk_X9_as kn_X9 ki_X9_as kl_X9_as (T := TX9) (N := 8) rfl (by decide) ho rfl (n := 2) ⟨by decide +kernel, by decide +kernel, by decide +kernel⟩ rfl ⟨hroom, by decide⟩ hst hdg K
theorem cs_L_63 (hF : bzE g d nL cc "BronzeDownLaw" x) {o : Nat} {a1 : Int32} {a2 : Int32} {d2 : Nat} {r0 : Int32} {τ : bzS} (ho : kd o = 10) (hM : ∀ l, Met l yX10_as (Cond.code yX10_as cX10_as 4 (some .int) :: GW) (bzR d2) (va_Pc [.ref (ga g o), .int a1, .int a2] (bzP g σ)) (va_Qi (fun (r : Int32) (u : bzS) => r = r0 ∧ u = τ) (bzB g) (gA g)) 0 0 (gA g)) (hroom : d2 + 1 ≤ d) (hst : (st.map fun v => v.category).sum ≤ 8) (hdg : decode cc pc = .ok (.invokevirtual 63, 3)) (K : bzJ g nL x τ (pc + 3) lv (.int r0 :: st)) : bzJ g nL x σ pc lv (.int a2 :: .int a1 :: .ref (ga g o) :: st) := j_calliV hF (As := [.int a1, .int a2]) hM km_L_63 kk_X10_as kn_X10 ki_X10_as kl_X10_as (T := TX10) (N := 27) rfl (by decide) ho rfl (n := 2) ⟨by decide +kernel, by decide +kernel, by decide +kernel⟩ rfl ⟨hroom, by decide⟩ hst hdg K
theorem cs_L_66 (hF : bzE g d nL cc "BronzeDownLaw" x) {o : Nat} {a1 : Int64} {a3 : Int32} {d2 : Nat} {r0 : Int32} {τ : bzS} (ho : kd o = 9) (hM : ∀ l, Met l yX9_feed (Cond.code yX9_feed cX9_feed 5 (some .int) :: GW) (bzR d2) (va_Pc [.ref (ga g o), .long a1, .int a3] (bzP g σ)) (va_Qi (fun (r : Int32) (u : bzS) => r = r0 ∧ u = τ) (bzB g) (gA g)) 0 0 (gA g)) (hroom : d2 + 1 ≤ d) (hst : (st.map fun v => v.category).sum ≤ 8) (hdg : decode cc pc = .ok (.invokevirtual 66, 3)) (K : bzJ g nL x τ (pc + 3) lv (.int r0 :: st)) : bzJ g nL x σ pc lv (.int a3 :: .long a1 :: .ref (ga g o) :: st) := j_calliV hF (As := [.long a1, .int a3]) hM km_L_66 kk_X9_feed kn_X9 ki_X9_feed kl_X9_feed (T := TX9) (N := 8) rfl (by decide) ho rfl (n := 2) ⟨by decide +kernel, by decide +kernel, by decide +kernel⟩ rfl ⟨hroom, by decide⟩ hst hdg K
theorem cs_L_70 (hF : bzE g d nL cc "BronzeDownLaw" x) {o : Nat} {a1 : Int64} {a3 : Int32} {d2 : Nat} {r0 : Int32} {τ : bzS} (ho : kd o = 10) (hM : ∀ l, Met l yX10_feed (Cond.code yX10_feed cX10_feed 5 (some .int) :: GW) (bzR d2) (va_Pc [.ref (ga g o), .long a1, .int a3] (bzP g σ)) (va_Qi (fun (r : Int32) (u : bzS) => r = r0 ∧ u = τ) (bzB g) (gA g)) 0 0 (gA g)) (hroom : d2 + 1 ≤ d) (hst : (st.map fun v => v.category).sum ≤ 8) (hdg : decode cc pc = .ok (.invokevirtual 70, 3)) (K : bzJ g nL x τ (pc + 3) lv (.int r0 :: st)) : bzJ g nL x σ pc lv (.int a3 :: .long a1 :: .ref (ga g o) :: st) := j_calliV hF (As := [.long a1, .int a3]) hM km_L_70 kk_X10_feed kn_X10 ki_X10_feed kl_X10_feed (T := TX10) (N := 27) rfl (by decide) ho rfl (n := 2) ⟨by decide +kernel, by decide +kernel, by decide +kernel⟩ rfl ⟨hroom, by decide⟩ hst hdg K
theorem cs_L_71 (hF : bzE g d nL cc "BronzeDownLaw" x) {o : Nat} {a1 : Int32} {d2 : Nat} {r0 : Int32} {τ : bzS} (ho : kd o = 9) (hM : ∀ l, Met l yX9_text (Cond.code yX9_text cX9_text 3 (some .int) :: GW) (bzR d2) (va_Pc [.ref (ga g o), .int a1] (bzP g σ)) (va_Qi (fun (r : Int32) (u : bzS) => r = r0 ∧ u = τ) (bzB g) (gA g)) 0 0 (gA g)) (hroom : d2 + 1 ≤ d) (hst : (st.map fun v => v.category).sum ≤ 8) (hdg : decode cc pc = .ok (.invokevirtual 71, 3)) (K : bzJ g nL x τ (pc + 3) lv (.int r0 :: st)) : bzJ g nL x σ pc lv (.int a1 :: .ref (ga g o) :: st) := j_calliV hF (As := [.int a1]) hM km_L_71 kk_X9_text kn_X9 ki_X9_text kl_X9_text (T := TX9) (N := 8) rfl (by decide) ho rfl (n := 1) ⟨by decide +kernel, by decide +kernel, by decide +kernel⟩ rfl ⟨hroom, by decide⟩ hst hdg K
theorem cs_L_74 (hF : bzE g d nL cc "BronzeDownLaw" x) {o : Nat} {a1 : Int32} {d2 : Nat} {r0 : Int32} {τ : bzS} (ho : kd o = 10) (hM : ∀ l, Met l yX10_text (Cond.code yX10_text cX10_text 5 (some .int) :: GW) (bzR d2) (va_Pc [.ref (ga g o), .int a1] (bzP g σ)) (va_Qi (fun (r : Int32) (u : bzS) => r = r0 ∧ u = τ) (bzB g) (gA g)) 0 0 (gA g)) (hroom : d2 + 1 ≤ d) (hst : (st.map fun v => v.category).sum ≤ 8) (hdg : decode cc pc = .ok (.invokevirtual 74, 3)) (K : bzJ g nL x τ (pc + 3) lv (.int r0 :: st)) : bzJ g nL x σ pc lv (.int a1 :: .ref (ga g o) :: st) := j_calliV hF (As := [.int a1]) hM km_L_74 kk_X10_text kn_X10 ki_X10_text kl_X10_text (T := TX10) (N := 27) rfl (by decide) ho rfl (n := 1) ⟨by decide +kernel, by decide +kernel, by decide +kernel⟩ rfl ⟨hroom, by decide⟩ hst hdg K
theorem cs_L_75 (hF : bzE g d nL cc "BronzeDownLaw" x) {o : Nat} {a1 : Int32} {a2 : Int32} {a3 : Int32} {a4 : Int32} {d2 : Nat} {r0 : Int32} {τ : bzS} (ho : kd o = 9) (hM : ∀ l, Met l yX9_law (Cond.code yX9_law cX9_law 5 (some .int) :: GW) (bzR d2) (va_Pc [.ref (ga g o), .int a1, .int a2, .int a3, .int a4] (bzP g σ)) (va_Qi (fun (r : Int32) (u : bzS) => r = r0 ∧ u = τ) (bzB g) (gA g)) 0 0 (gA g)) (hroom : d2 + 1 ≤ d) (hst : (st.map fun v => v.category).sum ≤ 8) (hdg : decode cc pc = .ok (.invokevirtual 75, 3)) (K : bzJ g nL x τ (pc + 3) lv (.int r0 :: st)) : bzJ g nL x σ pc lv (.int a4 :: .int a3 :: .int a2 :: .int a1 :: .ref (ga g o) :: st) := j_calliV hF (As := [.int a1, .int a2, .int a3, .int a4]) hM km_L_75 kk_X9_law kn_X9 ki_X9_law kl_X9_law (T := TX9) (N := 8) rfl (by decide) ho rfl (n := 4) ⟨by decide +kernel, by decide +kernel, by decide +kernel⟩ rfl ⟨hroom, by decide⟩ hst hdg K
theorem cs_L_79 (hF : bzE g d nL cc "BronzeDownLaw" x) {o : Nat} {a1 : Int32} {a2 : Int32} {a3 : Int32} {a4 : Int32} {d2 : Nat} {r0 : Int32} {τ : bzS} (ho : kd o = 10) (hM : ∀ l, Met l yX10_law (Cond.code yX10_law cX10_law 5 (some .int) :: GW) (bzR d2) (va_Pc [.ref (ga g o), .int a1, .int a2, .int a3, .int a4] (bzP g σ)) (va_Qi (fun (r : Int32) (u : bzS) => r = r0 ∧ u = τ) (bzB g) (gA g)) 0 0 (gA g)) (hroom : d2 + 1 ≤ d) (hst : (st.map fun v => v.category).sum ≤ 8) (hdg : decode cc pc = .ok (.invokevirtual 79, 3)) (K : bzJ g nL x τ (pc + 3) lv (.int r0 :: st)) : bzJ g nL x σ pc lv (.int a4 :: .int a3 :: .int a2 :: .int a1 :: .ref (ga g o) :: st) := j_calliV hF (As := [.int a1, .int a2, .int a3, .int a4]) hM km_L_79 kk_X10_law kn_X10 ki_X10_law kl_X10_law (T := TX10) (N := 27) rfl (by decide) ho rfl (n := 4) ⟨by decide +kernel, by decide +kernel, by decide +kernel⟩ rfl ⟨hroom, by decide⟩ hst hdg K
theorem cs_L_80 (hF : bzE g d nL cc "BronzeDownLaw" x) {o : Nat} {a1 : Int32} {d2 : Nat} {r0 : Int32} {τ : bzS} (ho : kd o = 9) (hM : ∀ l, Met l yX9_years (Cond.code yX9_years cX9_years 2 (some .int) :: GW) (bzR d2) (va_Pc [.ref (ga g o), .int a1] (bzP g σ)) (va_Qi (fun (r : Int32) (u : bzS) => r = r0 ∧ u = τ) (bzB g) (gA g)) 0 0 (gA g)) (hroom : d2 + 1 ≤ d) (hst : (st.map fun v => v.category).sum ≤ 8) (hdg : decode cc pc = .ok (.invokevirtual 80, 3)) (K : bzJ g nL x τ (pc + 3) lv (.int r0 :: st)) : bzJ g nL x σ pc lv (.int a1 :: .ref (ga g o) :: st) := j_calliV hF (As := [.int a1]) hM km_L_80 kk_X9_years kn_X9 ki_X9_years kl_X9_years (T := TX9) (N := 8) rfl (by decide) ho rfl (n := 1) ⟨by decide +kernel, by decide +kernel, by decide +kernel⟩ rfl ⟨hroom, by decide⟩ hst hdg K
theorem cs_L_83 (hF : bzE g d nL cc "BronzeDownLaw" x) {o : Nat} {a1 : Int32} {d2 : Nat} {r0 : Int32} {τ : bzS} (ho : kd o = 10) (hM : ∀ l, Met l yX10_years (Cond.code yX10_years cX10_years 2 (some .int) :: GW) (bzR d2) (va_Pc [.ref (ga g o), .int a1] (bzP g σ)) (va_Qi (fun (r : Int32) (u : bzS) => r = r0 ∧ u = τ) (bzB g) (gA g)) 0 0 (gA g)) (hroom : d2 + 1 ≤ d) (hst : (st.map fun v => v.category).sum ≤ 8) (hdg : decode cc pc = .ok (.invokevirtual 83, 3)) (K : bzJ g nL x τ (pc + 3) lv (.int r0 :: st)) : bzJ g nL x σ pc lv (.int a1 :: .ref (ga g o) :: st) := j_calliV hF (As := [.int a1]) hM km_L_83 kk_X10_years kn_X10 ki_X10_years kl_X10_years (T := TX10) (N := 27) rfl (by decide) ho rfl (n := 1) ⟨by decide +kernel, by decide +kernel, by decide +kernel⟩ rfl ⟨hroom, by decide⟩ hst hdg K
theorem cs_L_84 (hF : bzE g d nL cc "BronzeDownLaw" x) {o : Nat} {a1 : Int32} {d2 : Nat} {r0 : Int32} {τ : bzS} (ho : kd o = 9) (hM : ∀ l, Met l yX9_loose (Cond.code yX9_loose cX9_loose 3 (some .int) :: GW) (bzR d2) (va_Pc [.ref (ga g o), .int a1] (bzP g σ)) (va_Qi (fun (r : Int32) (u : bzS) => r = r0 ∧ u = τ) (bzB g) (gA g)) 0 0 (gA g)) (hroom : d2 + 1 ≤ d) (hst : (st.map fun v => v.category).sum ≤ 8) (hdg : decode cc pc = .ok (.invokevirtual 84, 3)) (K : bzJ g nL x τ (pc + 3) lv (.int r0 :: st)) : bzJ g nL x σ pc lv (.int a1 :: .ref (ga g o) :: st) := j_calliV hF (As := [.int a1]) hM km_L_84 kk_X9_loose kn_X9 ki_X9_loose kl_X9_loose (T := TX9) (N := 8) rfl (by decide) ho rfl (n := 1) ⟨by decide +kernel, by decide +kernel, by decide +kernel⟩ rfl ⟨hroom, by decide⟩ hst hdg K
theorem cs_L_87 (hF : bzE g d nL cc "BronzeDownLaw" x) {o : Nat} {a1 : Int32} {d2 : Nat} {r0 : Int32} {τ : bzS} (ho : kd o = 10) (hM : ∀ l, Met l yX10_loose (Cond.code yX10_loose cX10_loose 4 (some .int) :: GW) (bzR d2) (va_Pc [.ref (ga g o), .int a1] (bzP g σ)) (va_Qi (fun (r : Int32) (u : bzS) => r = r0 ∧ u = τ) (bzB g) (gA g)) 0 0 (gA g)) (hroom : d2 + 1 ≤ d) (hst : (st.map fun v => v.category).sum ≤ 8) (hdg : decode cc pc = .ok (.invokevirtual 87, 3)) (K : bzJ g nL x τ (pc + 3) lv (.int r0 :: st)) : bzJ g nL x σ pc lv (.int a1 :: .ref (ga g o) :: st) := j_calliV hF (As := [.int a1]) hM km_L_87 kk_X10_loose kn_X10 ki_X10_loose kl_X10_loose (T := TX10) (N := 27) rfl (by decide) ho rfl (n := 1) ⟨by decide +kernel, by decide +kernel, by decide +kernel⟩ rfl ⟨hroom, by decide⟩ hst hdg K
theorem cs_L_88 (hF : bzE g d nL cc "BronzeDownLaw" x) {o : Nat} {a1 : Int32} {a2 : Int32} {d2 : Nat} {r0 : Int32} {τ : bzS} (ho : kd o = 9) (hM : ∀ l, Met l yX9_then (Cond.code yX9_then cX9_then 3 (some .int) :: GW) (bzR d2) (va_Pc [.ref (ga g o), .int a1, .int a2] (bzP g σ)) (va_Qi (fun (r : Int32) (u : bzS) => r = r0 ∧ u = τ) (bzB g) (gA g)) 0 0 (gA g)) (hroom : d2 + 1 ≤ d) (hst : (st.map fun v => v.category).sum ≤ 8) (hdg : decode cc pc = .ok (.invokevirtual 88, 3)) (K : bzJ g nL x τ (pc + 3) lv (.int r0 :: st)) : bzJ g nL x σ pc lv (.int a2 :: .int a1 :: .ref (ga g o) :: st) := j_calliV hF (As := [.int a1, .int a2]) hM km_L_88 kk_X9_then kn_X9 ki_X9_then kl_X9_then (T := TX9) (N := 8) rfl (by decide) ho rfl (n := 2) ⟨by decide +kernel, by decide +kernel, by decide +kernel⟩ rfl ⟨hroom, by decide⟩ hst hdg K
theorem cs_L_91 (hF : bzE g d nL cc "BronzeDownLaw" x) {o : Nat} {a1 : Int32} {a2 : Int32} {d2 : Nat} {r0 : Int32} {τ : bzS} (ho : kd o = 10) (hM : ∀ l, Met l yX10_then (Cond.code yX10_then cX10_then 3 (some .int) :: GW) (bzR d2) (va_Pc [.ref (ga g o), .int a1, .int a2] (bzP g σ)) (va_Qi (fun (r : Int32) (u : bzS) => r = r0 ∧ u = τ) (bzB g) (gA g)) 0 0 (gA g)) (hroom : d2 + 1 ≤ d) (hst : (st.map fun v => v.category).sum ≤ 8) (hdg : decode cc pc = .ok (.invokevirtual 91, 3)) (K : bzJ g nL x τ (pc + 3) lv (.int r0 :: st)) : bzJ g nL x σ pc lv (.int a2 :: .int a1 :: .ref (ga g o) :: st) := j_calliV hF (As := [.int a1, .int a2]) hM km_L_91 kk_X10_then kn_X10 ki_X10_then kl_X10_then (T := TX10) (N := 27) rfl (by decide) ho rfl (n := 2) ⟨by decide +kernel, by decide +kernel, by decide +kernel⟩ rfl ⟨hroom, by decide⟩ hst hdg K
theorem cs_L_92 (hF : bzE g d nL cc "BronzeDownLaw" x) {o : Nat} {d2 : Nat} {r0 : Int32} {τ : bzS} (ho : kd o = 9) (hM : ∀ l, Met l yX9_falls (Cond.code yX9_falls cX9_falls 2 (some .int) :: GW) (bzR d2) (va_Pc [.ref (ga g o)] (bzP g σ)) (va_Qi (fun (r : Int32) (u : bzS) => r = r0 ∧ u = τ) (bzB g) (gA g)) 0 0 (gA g)) (hroom : d2 + 1 ≤ d) (hst : (st.map fun v => v.category).sum ≤ 8) (hdg : decode cc pc = .ok (.invokevirtual 92, 3)) (K : bzJ g nL x τ (pc + 3) lv (.int r0 :: st)) : bzJ g nL x σ pc lv (.ref (ga g o) :: st) := j_calliV hF (As := []) hM km_L_92 kk_X9_falls kn_X9 ki_X9_falls kl_X9_falls (T := TX9) (N := 8) rfl (by decide) ho rfl (n := 0) ⟨by decide +kernel, by decide +kernel, by decide +kernel⟩ rfl ⟨hroom, by decide⟩ hst hdg K
theorem cs_L_96 (hF : bzE g d nL cc "BronzeDownLaw" x) {o : Nat} {d2 : Nat} {r0 : Int32} {τ : bzS} (ho : kd o = 10) (hM : ∀ l, Met l yX10_falls (Cond.code yX10_falls cX10_falls 2 (some .int) :: GW) (bzR d2) (va_Pc [.ref (ga g o)] (bzP g σ)) (va_Qi (fun (r : Int32) (u : bzS) => r = r0 ∧ u = τ) (bzB g) (gA g)) 0 0 (gA g)) (hroom : d2 + 1 ≤ d) (hst : (st.map fun v => v.category).sum ≤ 8) (hdg : decode cc pc = .ok (.invokevirtual 96, 3)) (K : bzJ g nL x τ (pc + 3) lv (.int r0 :: st)) : bzJ g nL x σ pc lv (.ref (ga g o) :: st) := j_calliV hF (As := []) hM km_L_96 kk_X10_falls kn_X10 ki_X10_falls kl_X10_falls (T := TX10) (N := 27) rfl (by decide) ho rfl (n := 0) ⟨by decide +kernel, by decide +kernel, by decide +kernel⟩ rfl ⟨hroom, by decide⟩ hst hdg K
theorem cs_L_97 (hF : bzE g d nL cc "BronzeDownLaw" x) {o : Nat} {a1 : Int32} {a2 : Int32} {d2 : Nat} {r0 : Int32} {τ : bzS} (ho : kd o = 9) (hM : ∀ l, Met l yX9_wet (Cond.code yX9_wet cX9_wet 5 (some .int) :: GW) (bzR d2) (va_Pc [.ref (ga g o), .int a1, .int a2] (bzP g σ)) (va_Qi (fun (r : Int32) (u : bzS) => r = r0 ∧ u = τ) (bzB g) (gA g)) 0 0 (gA g)) (hroom : d2 + 1 ≤ d) (hst : (st.map fun v => v.category).sum ≤ 8) (hdg : decode cc pc = .ok (.invokevirtual 97, 3)) (K : bzJ g nL x τ (pc + 3) lv (.int r0 :: st)) : bzJ g nL x σ pc lv (.int a2 :: .int a1 :: .ref (ga g o) :: st) := j_calliV hF (As := [.int a1, .int a2]) hM km_L_97 kk_X9_wet kn_X9 ki_X9_wet kl_X9_wet (T := TX9) (N := 8) rfl (by decide) ho rfl (n := 2) ⟨by decide +kernel, by decide +kernel, by decide +kernel⟩ rfl ⟨hroom, by decide⟩ hst hdg K
theorem cs_L_100 (hF : bzE g d nL cc "BronzeDownLaw" x) {o : Nat} {a1 : Int32} {a2 : Int32} {d2 : Nat} {r0 : Int32} {τ : bzS} (ho : kd o = 10) (hM : ∀ l, Met l yX10_wet (Cond.code yX10_wet cX10_wet 5 (some .int) :: GW) (bzR d2) (va_Pc [.ref (ga g o), .int a1, .int a2] (bzP g σ)) (va_Qi (fun (r : Int32) (u : bzS) => r = r0 ∧ u = τ) (bzB g) (gA g)) 0 0 (gA g)) (hroom : d2 + 1 ≤ d) (hst : (st.map fun v => v.category).sum ≤ 8) (hdg : decode cc pc = .ok (.invokevirtual 100, 3)) (K : bzJ g nL x τ (pc + 3) lv (.int r0 :: st)) : bzJ g nL x σ pc lv (.int a2 :: .int a1 :: .ref (ga g o) :: st) := j_calliV hF (As := [.int a1, .int a2]) hM km_L_100 kk_X10_wet kn_X10 ki_X10_wet kl_X10_wet (T := TX10) (N := 27) rfl (by decide) ho rfl (n := 2) ⟨by decide +kernel, by decide +kernel, by decide +kernel⟩ rfl ⟨hroom, by decide⟩ hst hdg K
theorem cs_L_101 (hF : bzE g d nL cc "BronzeDownLaw" x) {o : Nat} {a1 : Int32} {a2 : Int32} {a3 : Int32} {d2 : Nat} {r0 : Int32} {τ : bzS} (ho : kd o = 9) (hM : ∀ l, Met l yX9_loudFor (Cond.code yX9_loudFor cX9_loudFor 5 (some .int) :: GW) (bzR d2) (va_Pc [.ref (ga g o), .int a1, .int a2, .int a3] (bzP g σ)) (va_Qi (fun (r : Int32) (u : bzS) => r = r0 ∧ u = τ) (bzB g) (gA g)) 0 0 (gA g)) (hroom : d2 + 1 ≤ d) (hst : (st.map fun v => v.category).sum ≤ 8) (hdg : decode cc pc = .ok (.invokevirtual 101, 3)) (K : bzJ g nL x τ (pc + 3) lv (.int r0 :: st)) : bzJ g nL x σ pc lv (.int a3 :: .int a2 :: .int a1 :: .ref (ga g o) :: st) := j_calliV hF (As := [.int a1, .int a2, .int a3]) hM km_L_101 kk_X9_loudFor kn_X9 ki_X9_loudFor kl_X9_loudFor (T := TX9) (N := 8) rfl (by decide) ho rfl (n := 3) ⟨by decide +kernel, by decide +kernel, by decide +kernel⟩ rfl ⟨hroom, by decide⟩ hst hdg K
theorem cs_L_104 (hF : bzE g d nL cc "BronzeDownLaw" x) {o : Nat} {a1 : Int32} {a2 : Int32} {a3 : Int32} {d2 : Nat} {r0 : Int32} {τ : bzS} (ho : kd o = 10) (hM : ∀ l, Met l yX10_loudFor (Cond.code yX10_loudFor cX10_loudFor 6 (some .int) :: GW) (bzR d2) (va_Pc [.ref (ga g o), .int a1, .int a2, .int a3] (bzP g σ)) (va_Qi (fun (r : Int32) (u : bzS) => r = r0 ∧ u = τ) (bzB g) (gA g)) 0 0 (gA g)) (hroom : d2 + 1 ≤ d) (hst : (st.map fun v => v.category).sum ≤ 8) (hdg : decode cc pc = .ok (.invokevirtual 104, 3)) (K : bzJ g nL x τ (pc + 3) lv (.int r0 :: st)) : bzJ g nL x σ pc lv (.int a3 :: .int a2 :: .int a1 :: .ref (ga g o) :: st) := j_calliV hF (As := [.int a1, .int a2, .int a3]) hM km_L_104 kk_X10_loudFor kn_X10 ki_X10_loudFor kl_X10_loudFor (T := TX10) (N := 27) rfl (by decide) ho rfl (n := 3) ⟨by decide +kernel, by decide +kernel, by decide +kernel⟩ rfl ⟨hroom, by decide⟩ hst hdg K
theorem cs_L_105 (hF : bzE g d nL cc "BronzeDownLaw" x) {o : Nat} {a1 : Int32} {a2 : Int32} {d2 : Nat} {r0 : Int32} {τ : bzS} (ho : kd o = 9) (hM : ∀ l, Met l yX9_everyFor (Cond.code yX9_everyFor cX9_everyFor 7 (some .int) :: GW) (bzR d2) (va_Pc [.ref (ga g o), .int a1, .int a2] (bzP g σ)) (va_Qi (fun (r : Int32) (u : bzS) => r = r0 ∧ u = τ) (bzB g) (gA g)) 0 0 (gA g)) (hroom : d2 + 1 ≤ d) (hst : (st.map fun v => v.category).sum ≤ 8) (hdg : decode cc pc = .ok (.invokevirtual 105, 3)) (K : bzJ g nL x τ (pc + 3) lv (.int r0 :: st)) : bzJ g nL x σ pc lv (.int a2 :: .int a1 :: .ref (ga g o) :: st) := j_calliV hF (As := [.int a1, .int a2]) hM km_L_105 kk_X9_everyFor kn_X9 ki_X9_everyFor kl_X9_everyFor (T := TX9) (N := 8) rfl (by decide) ho rfl (n := 2) ⟨by decide +kernel, by decide +kernel, by decide +kernel⟩ rfl ⟨hroom, by decide⟩ hst hdg K
theorem cs_L_108 (hF : bzE g d nL cc "BronzeDownLaw" x) {o : Nat} {a1 : Int32} {a2 : Int32} {d2 : Nat} {r0 : Int32} {τ : bzS} (ho : kd o = 10) (hM : ∀ l, Met l yX10_everyFor (Cond.code yX10_everyFor cX10_everyFor 7 (some .int) :: GW) (bzR d2) (va_Pc [.ref (ga g o), .int a1, .int a2] (bzP g σ)) (va_Qi (fun (r : Int32) (u : bzS) => r = r0 ∧ u = τ) (bzB g) (gA g)) 0 0 (gA g)) (hroom : d2 + 1 ≤ d) (hst : (st.map fun v => v.category).sum ≤ 8) (hdg : decode cc pc = .ok (.invokevirtual 108, 3)) (K : bzJ g nL x τ (pc + 3) lv (.int r0 :: st)) : bzJ g nL x σ pc lv (.int a2 :: .int a1 :: .ref (ga g o) :: st) := j_calliV hF (As := [.int a1, .int a2]) hM km_L_108 kk_X10_everyFor kn_X10 ki_X10_everyFor kl_X10_everyFor (T := TX10) (N := 27) rfl (by decide) ho rfl (n := 2) ⟨by decide +kernel, by decide +kernel, by decide +kernel⟩ rfl ⟨hroom, by decide⟩ hst hdg K
theorem cs_L_109 (hF : bzE g d nL cc "BronzeDownLaw" x) {o : Nat} {a1 : Int32} {d2 : Nat} {r0 : Int32} {τ : bzS} (ho : kd o = 9) (hM : ∀ l, Met l yX9_needless (Cond.code yX9_needless cX9_needless 5 (some .int) :: GW) (bzR d2) (va_Pc [.ref (ga g o), .int a1] (bzP g σ)) (va_Qi (fun (r : Int32) (u : bzS) => r = r0 ∧ u = τ) (bzB g) (gA g)) 0 0 (gA g)) (hroom : d2 + 1 ≤ d) (hst : (st.map fun v => v.category).sum ≤ 8) (hdg : decode cc pc = .ok (.invokevirtual 109, 3)) (K : bzJ g nL x τ (pc + 3) lv (.int r0 :: st)) : bzJ g nL x σ pc lv (.int a1 :: .ref (ga g o) :: st) := j_calliV hF (As := [.int a1]) hM km_L_109 kk_X9_needless kn_X9 ki_X9_needless kl_X9_needless (T := TX9) (N := 8) rfl (by decide) ho rfl (n := 1) ⟨by decide +kernel, by decide +kernel, by decide +kernel⟩ rfl ⟨hroom, by decide⟩ hst hdg K
theorem cs_L_112 (hF : bzE g d nL cc "BronzeDownLaw" x) {o : Nat} {a1 : Int32} {d2 : Nat} {r0 : Int32} {τ : bzS} (ho : kd o = 10) (hM : ∀ l, Met l yX10_needless (Cond.code yX10_needless cX10_needless 5 (some .int) :: GW) (bzR d2) (va_Pc [.ref (ga g o), .int a1] (bzP g σ)) (va_Qi (fun (r : Int32) (u : bzS) => r = r0 ∧ u = τ) (bzB g) (gA g)) 0 0 (gA g)) (hroom : d2 + 1 ≤ d) (hst : (st.map fun v => v.category).sum ≤ 8) (hdg : decode cc pc = .ok (.invokevirtual 112, 3)) (K : bzJ g nL x τ (pc + 3) lv (.int r0 :: st)) : bzJ g nL x σ pc lv (.int a1 :: .ref (ga g o) :: st) := j_calliV hF (As := [.int a1]) hM km_L_112 kk_X10_needless kn_X10 ki_X10_needless kl_X10_needless (T := TX10) (N := 27) rfl (by decide) ho rfl (n := 1) ⟨by decide +kernel, by decide +kernel, by decide +kernel⟩ rfl ⟨hroom, by decide⟩ hst hdg K
theorem cs_L_113 (hF : bzE g d nL cc "BronzeDownLaw" x) {o : Nat} {a1 : Int32} {a2 : Int32} {d2 : Nat} {r0 : Int32} {τ : bzS} (ho : kd o = 9) (hM : ∀ l, Met l yX9_wanted (Cond.code yX9_wanted cX9_wanted 7 (some .int) :: GW) (bzR d2) (va_Pc [.ref (ga g o), .int a1, .int a2] (bzP g σ)) (va_Qi (fun (r : Int32) (u : bzS) => r = r0 ∧ u = τ) (bzB g) (gA g)) 0 0 (gA g)) (hroom : d2 + 1 ≤ d) (hst : (st.map fun v => v.category).sum ≤ 8) (hdg : decode cc pc = .ok (.invokevirtual 113, 3)) (K : bzJ g nL x τ (pc + 3) lv (.int r0 :: st)) : bzJ g nL x σ pc lv (.int a2 :: .int a1 :: .ref (ga g o) :: st) := j_calliV hF (As := [.int a1, .int a2]) hM km_L_113 kk_X9_wanted kn_X9 ki_X9_wanted kl_X9_wanted (T := TX9) (N := 8) rfl (by decide) ho rfl (n := 2) ⟨by decide +kernel, by decide +kernel, by decide +kernel⟩ rfl ⟨hroom, by decide⟩ hst hdg K
theorem cs_L_116 (hF : bzE g d nL cc "BronzeDownLaw" x) {o : Nat} {a1 : Int32} {a2 : Int32} {d2 : Nat} {r0 : Int32} {τ : bzS} (ho : kd o = 10) (hM : ∀ l, Met l yX10_wanted (Cond.code yX10_wanted cX10_wanted 7 (some .int) :: GW) (bzR d2) (va_Pc [.ref (ga g o), .int a1, .int a2] (bzP g σ)) (va_Qi (fun (r : Int32) (u : bzS) => r = r0 ∧ u = τ) (bzB g) (gA g)) 0 0 (gA g)) (hroom : d2 + 1 ≤ d) (hst : (st.map fun v => v.category).sum ≤ 8) (hdg : decode cc pc = .ok (.invokevirtual 116, 3)) (K : bzJ g nL x τ (pc + 3) lv (.int r0 :: st)) : bzJ g nL x σ pc lv (.int a2 :: .int a1 :: .ref (ga g o) :: st) := j_calliV hF (As := [.int a1, .int a2]) hM km_L_116 kk_X10_wanted kn_X10 ki_X10_wanted kl_X10_wanted (T := TX10) (N := 27) rfl (by decide) ho rfl (n := 2) ⟨by decide +kernel, by decide +kernel, by decide +kernel⟩ rfl ⟨hroom, by decide⟩ hst hdg K
theorem cs_L_117 (hF : bzE g d nL cc "BronzeDownLaw" x) {o : Nat} {a1 : Int32} {a2 : Int32} {d2 : Nat} {r0 : Int32} {τ : bzS} (ho : kd o = 9) (hM : ∀ l, Met l yX9_which (Cond.code yX9_which cX9_which 6 (some .int) :: GW) (bzR d2) (va_Pc [.ref (ga g o), .int a1, .int a2] (bzP g σ)) (va_Qi (fun (r : Int32) (u : bzS) => r = r0 ∧ u = τ) (bzB g) (gA g)) 0 0 (gA g)) (hroom : d2 + 1 ≤ d) (hst : (st.map fun v => v.category).sum ≤ 8) (hdg : decode cc pc = .ok (.invokevirtual 117, 3)) (K : bzJ g nL x τ (pc + 3) lv (.int r0 :: st)) : bzJ g nL x σ pc lv (.int a2 :: .int a1 :: .ref (ga g o) :: st) := j_calliV hF (As := [.int a1, .int a2]) hM km_L_117 kk_X9_which kn_X9 ki_X9_which kl_X9_which (T := TX9) (N := 8) rfl (by decide) ho rfl (n := 2) ⟨by decide +kernel, by decide +kernel, by decide +kernel⟩ rfl ⟨hroom, by decide⟩ hst hdg K
theorem cs_L_120 (hF : bzE g d nL cc "BronzeDownLaw" x) {o : Nat} {a1 : Int32} {a2 : Int32} {d2 : Nat} {r0 : Int32} {τ : bzS} (ho : kd o = 10) (hM : ∀ l, Met l yX10_which (Cond.code yX10_which cX10_which 5 (some .int) :: GW) (bzR d2) (va_Pc [.ref (ga g o), .int a1, .int a2] (bzP g σ)) (va_Qi (fun (r : Int32) (u : bzS) => r = r0 ∧ u = τ) (bzB g) (gA g)) 0 0 (gA g)) (hroom : d2 + 1 ≤ d) (hst : (st.map fun v => v.category).sum ≤ 8) (hdg : decode cc pc = .ok (.invokevirtual 120, 3)) (K : bzJ g nL x τ (pc + 3) lv (.int r0 :: st)) : bzJ g nL x σ pc lv (.int a2 :: .int a1 :: .ref (ga g o) :: st) := j_calliV hF (As := [.int a1, .int a2]) hM km_L_120 kk_X10_which kn_X10 ki_X10_which kl_X10_which (T := TX10) (N := 27) rfl (by decide) ho rfl (n := 2) ⟨by decide +kernel, by decide +kernel, by decide +kernel⟩ rfl ⟨hroom, by decide⟩ hst hdg K
theorem cs_L_121 (hF : bzE g d nL cc "BronzeDownLaw" x) {o : Nat} {a1 : Int32} {d2 : Nat} {r0 : Int32} {τ : bzS} (ho : kd o = 9) (hM : ∀ l, Met l yX9_stair (Cond.code yX9_stair cX9_stair 3 (some .int) :: GW) (bzR d2) (va_Pc [.ref (ga g o), .int a1] (bzP g σ)) (va_Qi (fun (r : Int32) (u : bzS) => r = r0 ∧ u = τ) (bzB g) (gA g)) 0 0 (gA g)) (hroom : d2 + 1 ≤ d) (hst : (st.map fun v => v.category).sum ≤ 8) (hdg : decode cc pc = .ok (.invokevirtual 121, 3)) (K : bzJ g nL x τ (pc + 3) lv (.int r0 :: st)) : bzJ g nL x σ pc lv (.int a1 :: .ref (ga g o) :: st) := j_calliV hF (As := [.int a1]) hM km_L_121 kk_X9_stair kn_X9 ki_X9_stair kl_X9_stair (T := TX9) (N := 8) rfl (by decide) ho rfl (n := 1) ⟨by decide +kernel, by decide +kernel, by decide +kernel⟩ rfl ⟨hroom, by decide⟩ hst hdg K
theorem cs_L_124 (hF : bzE g d nL cc "BronzeDownLaw" x) {o : Nat} {a1 : Int32} {d2 : Nat} {r0 : Int32} {τ : bzS} (ho : kd o = 10) (hM : ∀ l, Met l yX10_stair (Cond.code yX10_stair cX10_stair 5 (some .int) :: GW) (bzR d2) (va_Pc [.ref (ga g o), .int a1] (bzP g σ)) (va_Qi (fun (r : Int32) (u : bzS) => r = r0 ∧ u = τ) (bzB g) (gA g)) 0 0 (gA g)) (hroom : d2 + 1 ≤ d) (hst : (st.map fun v => v.category).sum ≤ 8) (hdg : decode cc pc = .ok (.invokevirtual 124, 3)) (K : bzJ g nL x τ (pc + 3) lv (.int r0 :: st)) : bzJ g nL x σ pc lv (.int a1 :: .ref (ga g o) :: st) := j_calliV hF (As := [.int a1]) hM km_L_124 kk_X10_stair kn_X10 ki_X10_stair kl_X10_stair (T := TX10) (N := 27) rfl (by decide) ho rfl (n := 1) ⟨by decide +kernel, by decide +kernel, by decide +kernel⟩ rfl ⟨hroom, by decide⟩ hst hdg K
theorem cs_L_125 (hF : bzE g d nL cc "BronzeDownLaw" x) {o : Nat} {d2 : Nat} {r0 : Int32} {τ : bzS} (ho : kd o = 9) (hM : ∀ l, Met l yX9_exact (Cond.code yX9_exact cX9_exact 1 (some .int) :: GW) (bzR d2) (va_Pc [.ref (ga g o)] (bzP g σ)) (va_Qi (fun (r : Int32) (u : bzS) => r = r0 ∧ u = τ) (bzB g) (gA g)) 0 0 (gA g)) (hroom : d2 + 1 ≤ d) (hst : (st.map fun v => v.category).sum ≤ 8) (hdg : decode cc pc = .ok (.invokevirtual 125, 3)) (K : bzJ g nL x τ (pc + 3) lv (.int r0 :: st)) : bzJ g nL x σ pc lv (.ref (ga g o) :: st) := j_calliV hF (As := []) hM km_L_125 kk_X9_exact kn_X9 ki_X9_exact kl_X9_exact (T := TX9) (N := 8) rfl (by decide) ho rfl (n := 0) ⟨by decide +kernel, by decide +kernel, by decide +kernel⟩ rfl ⟨hroom, by decide⟩ hst hdg K
theorem cs_L_128 (hF : bzE g d nL cc "BronzeDownLaw" x) {o : Nat} {d2 : Nat} {r0 : Int32} {τ : bzS} (ho : kd o = 10) (hM : ∀ l, Met l yX10_exact (Cond.code yX10_exact cX10_exact 4 (some .int) :: GW) (bzR d2) (va_Pc [.ref (ga g o)] (bzP g σ)) (va_Qi (fun (r : Int32) (u : bzS) => r = r0 ∧ u = τ) (bzB g) (gA g)) 0 0 (gA g)) (hroom : d2 + 1 ≤ d) (hst : (st.map fun v => v.category).sum ≤ 8) (hdg : decode cc pc = .ok (.invokevirtual 128, 3)) (K : bzJ g nL x τ (pc + 3) lv (.int r0 :: st)) : bzJ g nL x σ pc lv (.ref (ga g o) :: st) := j_calliV hF (As := []) hM km_L_128 kk_X10_exact kn_X10 ki_X10_exact kl_X10_exact (T := TX10) (N := 27) rfl (by decide) ho rfl (n := 0) ⟨by decide +kernel, by decide +kernel, by decide +kernel⟩ rfl ⟨hroom, by decide⟩ hst hdg K
theorem cs_L_129 (hF : bzE g d nL cc "BronzeDownLaw" x) {o : Nat} {a1 : Int32} {a2 : Int32} {d2 : Nat} {r0 : Int32} {τ : bzS} (ho : kd o = 9) (hM : ∀ l, Met l yX9_house (Cond.code yX9_house cX9_house 7 (some .int) :: GW) (bzR d2) (va_Pc [.ref (ga g o), .int a1, .int a2] (bzP g σ)) (va_Qi (fun (r : Int32) (u : bzS) => r = r0 ∧ u = τ) (bzB g) (gA g)) 0 0 (gA g)) (hroom : d2 + 1 ≤ d) (hst : (st.map fun v => v.category).sum ≤ 8) (hdg : decode cc pc = .ok (.invokevirtual 129, 3)) (K : bzJ g nL x τ (pc + 3) lv (.int r0 :: st)) : bzJ g nL x σ pc lv (.int a2 :: .int a1 :: .ref (ga g o) :: st) := j_calliV hF (As := [.int a1, .int a2]) hM km_L_129 kk_X9_house kn_X9 ki_X9_house kl_X9_house (T := TX9) (N := 8) rfl (by decide) ho rfl (n := 2) ⟨by decide +kernel, by decide +kernel, by decide +kernel⟩ rfl ⟨hroom, by decide⟩ hst hdg K
theorem cs_L_132 (hF : bzE g d nL cc "BronzeDownLaw" x) {o : Nat} {a1 : Int32} {a2 : Int32} {d2 : Nat} {r0 : Int32} {τ : bzS} (ho : kd o = 10) (hM : ∀ l, Met l yX10_house (Cond.code yX10_house cX10_house 7 (some .int) :: GW) (bzR d2) (va_Pc [.ref (ga g o), .int a1, .int a2] (bzP g σ)) (va_Qi (fun (r : Int32) (u : bzS) => r = r0 ∧ u = τ) (bzB g) (gA g)) 0 0 (gA g)) (hroom : d2 + 1 ≤ d) (hst : (st.map fun v => v.category).sum ≤ 8) (hdg : decode cc pc = .ok (.invokevirtual 132, 3)) (K : bzJ g nL x τ (pc + 3) lv (.int r0 :: st)) : bzJ g nL x σ pc lv (.int a2 :: .int a1 :: .ref (ga g o) :: st) := j_calliV hF (As := [.int a1, .int a2]) hM km_L_132 kk_X10_house kn_X10 ki_X10_house kl_X10_house (T := TX10) (N := 27) rfl (by decide) ho rfl (n := 2) ⟨by decide +kernel, by decide +kernel, by decide +kernel⟩ rfl ⟨hroom, by decide⟩ hst hdg K
theorem cs_L_133 (hF : bzE g d nL cc "BronzeDownLaw" x) {o : Nat} {a1 : Int32} {d2 : Nat} {r0 : Int32} {τ : bzS} (ho : kd o = 9) (hM : ∀ l, Met l yX9_power (Cond.code yX9_power cX9_power 3 (some .int) :: GW) (bzR d2) (va_Pc [.ref (ga g o), .int a1] (bzP g σ)) (va_Qi (fun (r : Int32) (u : bzS) => r = r0 ∧ u = τ) (bzB g) (gA g)) 0 0 (gA g)) (hroom : d2 + 1 ≤ d) (hst : (st.map fun v => v.category).sum ≤ 8) (hdg : decode cc pc = .ok (.invokevirtual 133, 3)) (K : bzJ g nL x τ (pc + 3) lv (.int r0 :: st)) : bzJ g nL x σ pc lv (.int a1 :: .ref (ga g o) :: st) := j_calliV hF (As := [.int a1]) hM km_L_133 kk_X9_power kn_X9 ki_X9_power kl_X9_power (T := TX9) (N := 8) rfl (by decide) ho rfl (n := 1) ⟨by decide +kernel, by decide +kernel, by decide +kernel⟩ rfl ⟨hroom, by decide⟩ hst hdg K
theorem cs_L_136 (hF : bzE g d nL cc "BronzeDownLaw" x) {o : Nat} {a1 : Int32} {d2 : Nat} {r0 : Int32} {τ : bzS} (ho : kd o = 10) (hM : ∀ l, Met l yX10_power (Cond.code yX10_power cX10_power 7 (some .int) :: GW) (bzR d2) (va_Pc [.ref (ga g o), .int a1] (bzP g σ)) (va_Qi (fun (r : Int32) (u : bzS) => r = r0 ∧ u = τ) (bzB g) (gA g)) 0 0 (gA g)) (hroom : d2 + 1 ≤ d) (hst : (st.map fun v => v.category).sum ≤ 8) (hdg : decode cc pc = .ok (.invokevirtual 136, 3)) (K : bzJ g nL x τ (pc + 3) lv (.int r0 :: st)) : bzJ g nL x σ pc lv (.int a1 :: .ref (ga g o) :: st) := j_calliV hF (As := [.int a1]) hM km_L_136 kk_X10_power kn_X10 ki_X10_power kl_X10_power (T := TX10) (N := 27) rfl (by decide) ho rfl (n := 1) ⟨by decide +kernel, by decide +kernel, by decide +kernel⟩ rfl ⟨hroom, by decide⟩ hst hdg K
theorem cs_L_137 (hF : bzE g d nL cc "BronzeDownLaw" x) {o : Nat} {a1 : Int32} {d2 : Nat} {r0 : Int32} {τ : bzS} (ho : kd o = 9) (hM : ∀ l, Met l yX9_gait (Cond.code yX9_gait cX9_gait 2 (some .int) :: GW) (bzR d2) (va_Pc [.ref (ga g o), .int a1] (bzP g σ)) (va_Qi (fun (r : Int32) (u : bzS) => r = r0 ∧ u = τ) (bzB g) (gA g)) 0 0 (gA g)) (hroom : d2 + 1 ≤ d) (hst : (st.map fun v => v.category).sum ≤ 8) (hdg : decode cc pc = .ok (.invokevirtual 137, 3)) (K : bzJ g nL x τ (pc + 3) lv (.int r0 :: st)) : bzJ g nL x σ pc lv (.int a1 :: .ref (ga g o) :: st) := j_calliV hF (As := [.int a1]) hM km_L_137 kk_X9_gait kn_X9 ki_X9_gait kl_X9_gait (T := TX9) (N := 8) rfl (by decide) ho rfl (n := 1) ⟨by decide +kernel, by decide +kernel, by decide +kernel⟩ rfl ⟨hroom, by decide⟩ hst hdg K
theorem cs_L_140 (hF : bzE g d nL cc "BronzeDownLaw" x) {o : Nat} {a1 : Int32} {d2 : Nat} {r0 : Int32} {τ : bzS} (ho : kd o = 10) (hM : ∀ l, Met l yX10_gait (Cond.code yX10_gait cX10_gait 4 (some .int) :: GW) (bzR d2) (va_Pc [.ref (ga g o), .int a1] (bzP g σ)) (va_Qi (fun (r : Int32) (u : bzS) => r = r0 ∧ u = τ) (bzB g) (gA g)) 0 0 (gA g)) (hroom : d2 + 1 ≤ d) (hst : (st.map fun v => v.category).sum ≤ 8) (hdg : decode cc pc = .ok (.invokevirtual 140, 3)) (K : bzJ g nL x τ (pc + 3) lv (.int r0 :: st)) : bzJ g nL x σ pc lv (.int a1 :: .ref (ga g o) :: st) := j_calliV hF (As := [.int a1]) hM km_L_140 kk_X10_gait kn_X10 ki_X10_gait kl_X10_gait (T := TX10) (N := 27) rfl (by decide) ho rfl (n := 1) ⟨by decide +kernel, by decide +kernel, by decide +kernel⟩ rfl ⟨hroom, by decide⟩ hst hdg K
theorem cs_L_141 (hF : bzE g d nL cc "BronzeDownLaw" x) {o : Nat} {a1 : Int32} {a2 : Int32} {a3 : Int32} {d2 : Nat} {r0 : Int32} {τ : bzS} (ho : kd o = 9) (hM : ∀ l, Met l yX9_odds (Cond.code yX9_odds cX9_odds 6 (some .int) :: GW) (bzR d2) (va_Pc [.ref (ga g o), .int a1, .int a2, .int a3] (bzP g σ)) (va_Qi (fun (r : Int32) (u : bzS) => r = r0 ∧ u = τ) (bzB g) (gA g)) 0 0 (gA g)) (hroom : d2 + 1 ≤ d) (hst : (st.map fun v => v.category).sum ≤ 8) (hdg : decode cc pc = .ok (.invokevirtual 141, 3)) (K : bzJ g nL x τ (pc + 3) lv (.int r0 :: st)) : bzJ g nL x σ pc lv (.int a3 :: .int a2 :: .int a1 :: .ref (ga g o) :: st) := j_calliV hF (As := [.int a1, .int a2, .int a3]) hM km_L_141 kk_X9_odds kn_X9 ki_X9_odds kl_X9_odds (T := TX9) (N := 8) rfl (by decide) ho rfl (n := 3) ⟨by decide +kernel, by decide +kernel, by decide +kernel⟩ rfl ⟨hroom, by decide⟩ hst hdg K
theorem cs_L_144 (hF : bzE g d nL cc "BronzeDownLaw" x) {o : Nat} {a1 : Int32} {a2 : Int32} {a3 : Int32} {d2 : Nat} {r0 : Int32} {τ : bzS} (ho : kd o = 10) (hM : ∀ l, Met l yX10_odds (Cond.code yX10_odds cX10_odds 6 (some .int) :: GW) (bzR d2) (va_Pc [.ref (ga g o), .int a1, .int a2, .int a3] (bzP g σ)) (va_Qi (fun (r : Int32) (u : bzS) => r = r0 ∧ u = τ) (bzB g) (gA g)) 0 0 (gA g)) (hroom : d2 + 1 ≤ d) (hst : (st.map fun v => v.category).sum ≤ 8) (hdg : decode cc pc = .ok (.invokevirtual 144, 3)) (K : bzJ g nL x τ (pc + 3) lv (.int r0 :: st)) : bzJ g nL x σ pc lv (.int a3 :: .int a2 :: .int a1 :: .ref (ga g o) :: st) := j_calliV hF (As := [.int a1, .int a2, .int a3]) hM km_L_144 kk_X10_odds kn_X10 ki_X10_odds kl_X10_odds (T := TX10) (N := 27) rfl (by decide) ho rfl (n := 3) ⟨by decide +kernel, by decide +kernel, by decide +kernel⟩ rfl ⟨hroom, by decide⟩ hst hdg K
theorem cs_L_145 (hF : bzE g d nL cc "BronzeDownLaw" x) {o : Nat} {a1 : Int32} {d2 : Nat} {r0 : Int32} {τ : bzS} (ho : kd o = 9) (hM : ∀ l, Met l yX9_seed (Cond.code yX9_seed cX9_seed 3 (some .int) :: GW) (bzR d2) (va_Pc [.ref (ga g o), .int a1] (bzP g σ)) (va_Qi (fun (r : Int32) (u : bzS) => r = r0 ∧ u = τ) (bzB g) (gA g)) 0 0 (gA g)) (hroom : d2 + 1 ≤ d) (hst : (st.map fun v => v.category).sum ≤ 8) (hdg : decode cc pc = .ok (.invokevirtual 145, 3)) (K : bzJ g nL x τ (pc + 3) lv (.int r0 :: st)) : bzJ g nL x σ pc lv (.int a1 :: .ref (ga g o) :: st) := j_calliV hF (As := [.int a1]) hM km_L_145 kk_X9_seed kn_X9 ki_X9_seed kl_X9_seed (T := TX9) (N := 8) rfl (by decide) ho rfl (n := 1) ⟨by decide +kernel, by decide +kernel, by decide +kernel⟩ rfl ⟨hroom, by decide⟩ hst hdg K
theorem cs_L_148 (hF : bzE g d nL cc "BronzeDownLaw" x) {o : Nat} {a1 : Int32} {d2 : Nat} {r0 : Int32} {τ : bzS} (ho : kd o = 10) (hM : ∀ l, Met l yX10_seed (Cond.code yX10_seed cX10_seed 3 (some .int) :: GW) (bzR d2) (va_Pc [.ref (ga g o), .int a1] (bzP g σ)) (va_Qi (fun (r : Int32) (u : bzS) => r = r0 ∧ u = τ) (bzB g) (gA g)) 0 0 (gA g)) (hroom : d2 + 1 ≤ d) (hst : (st.map fun v => v.category).sum ≤ 8) (hdg : decode cc pc = .ok (.invokevirtual 148, 3)) (K : bzJ g nL x τ (pc + 3) lv (.int r0 :: st)) : bzJ g nL x σ pc lv (.int a1 :: .ref (ga g o) :: st) := j_calliV hF (As := [.int a1]) hM km_L_148 kk_X10_seed kn_X10 ki_X10_seed kl_X10_seed (T := TX10) (N := 27) rfl (by decide) ho rfl (n := 1) ⟨by decide +kernel, by decide +kernel, by decide +kernel⟩ rfl ⟨hroom, by decide⟩ hst hdg K
theorem cs_L_149 (hF : bzE g d nL cc "BronzeDownLaw" x) {o : Nat} {a1 : Int32} {a2 : Int32} {a3 : Int32} {d2 : Nat} {r0 : Int32} {τ : bzS} (ho : kd o = 9) (hM : ∀ l, Met l yX9_voice (Cond.code yX9_voice cX9_voice 5 (some .int) :: GW) (bzR d2) (va_Pc [.ref (ga g o), .int a1, .int a2, .int a3] (bzP g σ)) (va_Qi (fun (r : Int32) (u : bzS) => r = r0 ∧ u = τ) (bzB g) (gA g)) 0 0 (gA g)) (hroom : d2 + 1 ≤ d) (hst : (st.map fun v => v.category).sum ≤ 8) (hdg : decode cc pc = .ok (.invokevirtual 149, 3)) (K : bzJ g nL x τ (pc + 3) lv (.int r0 :: st)) : bzJ g nL x σ pc lv (.int a3 :: .int a2 :: .int a1 :: .ref (ga g o) :: st) := j_calliV hF (As := [.int a1, .int a2, .int a3]) hM km_L_149 kk_X9_voice kn_X9 ki_X9_voice kl_X9_voice (T := TX9) (N := 8) rfl (by decide) ho rfl (n := 3) ⟨by decide +kernel, by decide +kernel, by decide +kernel⟩ rfl ⟨hroom, by decide⟩ hst hdg K
theorem cs_L_152 (hF : bzE g d nL cc "BronzeDownLaw" x) {o : Nat} {a1 : Int32} {a2 : Int32} {a3 : Int32} {d2 : Nat} {r0 : Int32} {τ : bzS} (ho : kd o = 10) (hM : ∀ l, Met l yX10_voice (Cond.code yX10_voice cX10_voice 4 (some .int) :: GW) (bzR d2) (va_Pc [.ref (ga g o), .int a1, .int a2, .int a3] (bzP g σ)) (va_Qi (fun (r : Int32) (u : bzS) => r = r0 ∧ u = τ) (bzB g) (gA g)) 0 0 (gA g)) (hroom : d2 + 1 ≤ d) (hst : (st.map fun v => v.category).sum ≤ 8) (hdg : decode cc pc = .ok (.invokevirtual 152, 3)) (K : bzJ g nL x τ (pc + 3) lv (.int r0 :: st)) : bzJ g nL x σ pc lv (.int a3 :: .int a2 :: .int a1 :: .ref (ga g o) :: st) := j_calliV hF (As := [.int a1, .int a2, .int a3]) hM km_L_152 kk_X10_voice kn_X10 ki_X10_voice kl_X10_voice (T := TX10) (N := 27) rfl (by decide) ho rfl (n := 3) ⟨by decide +kernel, by decide +kernel, by decide +kernel⟩ rfl ⟨hroom, by decide⟩ hst hdg K
theorem cs_L_153 (hF : bzE g d nL cc "BronzeDownLaw" x) {o : Nat} {a1 : Int32} {d2 : Nat} {r0 : Int32} {τ : bzS} (ho : kd o = 9) (hM : ∀ l, Met l yX9_trace (Cond.code yX9_trace cX9_trace 2 (some .int) :: GW) (bzR d2) (va_Pc [.ref (ga g o), .int a1] (bzP g σ)) (va_Qi (fun (r : Int32) (u : bzS) => r = r0 ∧ u = τ) (bzB g) (gA g)) 0 0 (gA g)) (hroom : d2 + 1 ≤ d) (hst : (st.map fun v => v.category).sum ≤ 8) (hdg : decode cc pc = .ok (.invokevirtual 153, 3)) (K : bzJ g nL x τ (pc + 3) lv (.int r0 :: st)) : bzJ g nL x σ pc lv (.int a1 :: .ref (ga g o) :: st) := j_calliV hF (As := [.int a1]) hM km_L_153 kk_X9_trace kn_X9 ki_X9_trace kl_X9_trace (T := TX9) (N := 8) rfl (by decide) ho rfl (n := 1) ⟨by decide +kernel, by decide +kernel, by decide +kernel⟩ rfl ⟨hroom, by decide⟩ hst hdg K
theorem cs_L_156 (hF : bzE g d nL cc "BronzeDownLaw" x) {o : Nat} {a1 : Int32} {d2 : Nat} {r0 : Int32} {τ : bzS} (ho : kd o = 10) (hM : ∀ l, Met l yX10_trace (Cond.code yX10_trace cX10_trace 2 (some .int) :: GW) (bzR d2) (va_Pc [.ref (ga g o), .int a1] (bzP g σ)) (va_Qi (fun (r : Int32) (u : bzS) => r = r0 ∧ u = τ) (bzB g) (gA g)) 0 0 (gA g)) (hroom : d2 + 1 ≤ d) (hst : (st.map fun v => v.category).sum ≤ 8) (hdg : decode cc pc = .ok (.invokevirtual 156, 3)) (K : bzJ g nL x τ (pc + 3) lv (.int r0 :: st)) : bzJ g nL x σ pc lv (.int a1 :: .ref (ga g o) :: st) := j_calliV hF (As := [.int a1]) hM km_L_156 kk_X10_trace kn_X10 ki_X10_trace kl_X10_trace (T := TX10) (N := 27) rfl (by decide) ho rfl (n := 1) ⟨by decide +kernel, by decide +kernel, by decide +kernel⟩ rfl ⟨hroom, by decide⟩ hst hdg K
theorem cs_L_157 (hF : bzE g d nL cc "BronzeDownLaw" x) {o : Nat} {a1 : Int32} {a2 : Int32} {a3 : Int32} {d2 : Nat} {r0 : Int32} {τ : bzS} (ho : kd o = 9) (hM : ∀ l, Met l yX9_sheet (Cond.code yX9_sheet cX9_sheet 5 (some .int) :: GW) (bzR d2) (va_Pc [.ref (ga g o), .int a1, .int a2, .int a3] (bzP g σ)) (va_Qi (fun (r : Int32) (u : bzS) => r = r0 ∧ u = τ) (bzB g) (gA g)) 0 0 (gA g)) (hroom : d2 + 1 ≤ d) (hst : (st.map fun v => v.category).sum ≤ 8) (hdg : decode cc pc = .ok (.invokevirtual 157, 3)) (K : bzJ g nL x τ (pc + 3) lv (.int r0 :: st)) : bzJ g nL x σ pc lv (.int a3 :: .int a2 :: .int a1 :: .ref (ga g o) :: st) := j_calliV hF (As := [.int a1, .int a2, .int a3]) hM km_L_157 kk_X9_sheet kn_X9 ki_X9_sheet kl_X9_sheet (T := TX9) (N := 8) rfl (by decide) ho rfl (n := 3) ⟨by decide +kernel, by decide +kernel, by decide +kernel⟩ rfl ⟨hroom, by decide⟩ hst hdg K
theorem cs_L_160 (hF : bzE g d nL cc "BronzeDownLaw" x) {o : Nat} {a1 : Int32} {a2 : Int32} {a3 : Int32} {d2 : Nat} {r0 : Int32} {τ : bzS} (ho : kd o = 10) (hM : ∀ l, Met l yX10_sheet (Cond.code yX10_sheet cX10_sheet 5 (some .int) :: GW) (bzR d2) (va_Pc [.ref (ga g o), .int a1, .int a2, .int a3] (bzP g σ)) (va_Qi (fun (r : Int32) (u : bzS) => r = r0 ∧ u = τ) (bzB g) (gA g)) 0 0 (gA g)) (hroom : d2 + 1 ≤ d) (hst : (st.map fun v => v.category).sum ≤ 8) (hdg : decode cc pc = .ok (.invokevirtual 160, 3)) (K : bzJ g nL x τ (pc + 3) lv (.int r0 :: st)) : bzJ g nL x σ pc lv (.int a3 :: .int a2 :: .int a1 :: .ref (ga g o) :: st) := j_calliV hF (As := [.int a1, .int a2, .int a3]) hM km_L_160 kk_X10_sheet kn_X10 ki_X10_sheet kl_X10_sheet (T := TX10) (N := 27) rfl (by decide) ho rfl (n := 3) ⟨by decide +kernel, by decide +kernel, by decide +kernel⟩ rfl ⟨hroom, by decide⟩ hst hdg K
theorem cs_L_161 (hF : bzE g d nL cc "BronzeDownLaw" x) {o : Nat} {a1 : Int32} {a2 : Int32} {a3 : Int32} {d2 : Nat} {r0 : Int32} {τ : bzS} (ho : kd o = 9) (hM : ∀ l, Met l yX9_put (Cond.code yX9_put cX9_put 5 (some .int) :: GW) (bzR d2) (va_Pc [.ref (ga g o), .int a1, .int a2, .int a3] (bzP g σ)) (va_Qi (fun (r : Int32) (u : bzS) => r = r0 ∧ u = τ) (bzB g) (gA g)) 0 0 (gA g)) (hroom : d2 + 1 ≤ d) (hst : (st.map fun v => v.category).sum ≤ 8) (hdg : decode cc pc = .ok (.invokevirtual 161, 3)) (K : bzJ g nL x τ (pc + 3) lv (.int r0 :: st)) : bzJ g nL x σ pc lv (.int a3 :: .int a2 :: .int a1 :: .ref (ga g o) :: st) := j_calliV hF (As := [.int a1, .int a2, .int a3]) hM km_L_161 kk_X9_put kn_X9 ki_X9_put kl_X9_put (T := TX9) (N := 8) rfl (by decide) ho rfl (n := 3) ⟨by decide +kernel, by decide +kernel, by decide +kernel⟩ rfl ⟨hroom, by decide⟩ hst hdg K
theorem cs_L_164 (hF : bzE g d nL cc "BronzeDownLaw" x) {o : Nat} {a1 : Int32} {a2 : Int32} {a3 : Int32} {d2 : Nat} {r0 : Int32} {τ : bzS} (ho : kd o = 10) (hM : ∀ l, Met l yX10_put (Cond.code yX10_put cX10_put 4 (some .int) :: GW) (bzR d2) (va_Pc [.ref (ga g o), .int a1, .int a2, .int a3] (bzP g σ)) (va_Qi (fun (r : Int32) (u : bzS) => r = r0 ∧ u = τ) (bzB g) (gA g)) 0 0 (gA g)) (hroom : d2 + 1 ≤ d) (hst : (st.map fun v => v.category).sum ≤ 8) (hdg : decode cc pc = .ok (.invokevirtual 164, 3)) (K : bzJ g nL x τ (pc + 3) lv (.int r0 :: st)) : bzJ g nL x σ pc lv (.int a3 :: .int a2 :: .int a1 :: .ref (ga g o) :: st) := j_calliV hF (As := [.int a1, .int a2, .int a3]) hM km_L_164 kk_X10_put kn_X10 ki_X10_put kl_X10_put (T := TX10) (N := 27) rfl (by decide) ho rfl (n := 3) ⟨by decide +kernel, by decide +kernel, by decide +kernel⟩ rfl ⟨hroom, by decide⟩ hst hdg K
theorem cs_L_165 (hF : bzE g d nL cc "BronzeDownLaw" x) {o : Nat} {a1 : Int32} {a2 : Int32} {a3 : Int32} {a4 : Int32} {a5 : Int32} {d2 : Nat} {r0 : Int32} {τ : bzS} (ho : kd o = 9) (hM : ∀ l, Met l yX9_move (Cond.code yX9_move cX9_move 8 (some .int) :: GW) (bzR d2) (va_Pc [.ref (ga g o), .int a1, .int a2, .int a3, .int a4, .int a5] (bzP g σ)) (va_Qi (fun (r : Int32) (u : bzS) => r = r0 ∧ u = τ) (bzB g) (gA g)) 0 0 (gA g)) (hroom : d2 + 1 ≤ d) (hst : (st.map fun v => v.category).sum ≤ 8) (hdg : decode cc pc = .ok (.invokevirtual 165, 3)) (K : bzJ g nL x τ (pc + 3) lv (.int r0 :: st)) : bzJ g nL x σ pc lv (.int a5 :: .int a4 :: .int a3 :: .int a2 :: .int a1 :: .ref (ga g o) :: st) := j_calliV hF (As := [.int a1, .int a2, .int a3, .int a4, .int a5]) hM km_L_165 kk_X9_move kn_X9 ki_X9_move kl_X9_move (T := TX9) (N := 8) rfl (by decide) ho rfl (n := 5) ⟨by decide +kernel, by decide +kernel, by decide +kernel⟩ rfl ⟨hroom, by decide⟩ hst hdg K
theorem cs_L_169 (hF : bzE g d nL cc "BronzeDownLaw" x) {o : Nat} {a1 : Int32} {a2 : Int32} {a3 : Int32} {a4 : Int32} {a5 : Int32} {d2 : Nat} {r0 : Int32} {τ : bzS} (ho : kd o = 10) (hM : ∀ l, Met l yX10_move (Cond.code yX10_move cX10_move 7 (some .int) :: GW) (bzR d2) (va_Pc [.ref (ga g o), .int a1, .int a2, .int a3, .int a4, .int a5] (bzP g σ)) (va_Qi (fun (r : Int32) (u : bzS) => r = r0 ∧ u = τ) (bzB g) (gA g)) 0 0 (gA g)) (hroom : d2 + 1 ≤ d) (hst : (st.map fun v => v.category).sum ≤ 8) (hdg : decode cc pc = .ok (.invokevirtual 169, 3)) (K : bzJ g nL x τ (pc + 3) lv (.int r0 :: st)) : bzJ g nL x σ pc lv (.int a5 :: .int a4 :: .int a3 :: .int a2 :: .int a1 :: .ref (ga g o) :: st) := j_calliV hF (As := [.int a1, .int a2, .int a3, .int a4, .int a5]) hM km_L_169 kk_X10_move kn_X10 ki_X10_move kl_X10_move (T := TX10) (N := 27) rfl (by decide) ho rfl (n := 5) ⟨by decide +kernel, by decide +kernel, by decide +kernel⟩ rfl ⟨hroom, by decide⟩ hst hdg K
theorem cs_L_170 (hF : bzE g d nL cc "BronzeDownLaw" x) {o : Nat} {a1 : Int32} {d2 : Nat} {r0 : Int32} {τ : bzS} (ho : kd o = 9) (hM : ∀ l, Met l yX9_talls (Cond.code yX9_talls cX9_talls 3 (some .int) :: GW) (bzR d2) (va_Pc [.ref (ga g o), .int a1] (bzP g σ)) (va_Qi (fun (r : Int32) (u : bzS) => r = r0 ∧ u = τ) (bzB g) (gA g)) 0 0 (gA g)) (hroom : d2 + 1 ≤ d) (hst : (st.map fun v => v.category).sum ≤ 8) (hdg : decode cc pc = .ok (.invokevirtual 170, 3)) (K : bzJ g nL x τ (pc + 3) lv (.int r0 :: st)) : bzJ g nL x σ pc lv (.int a1 :: .ref (ga g o) :: st) := j_calliV hF (As := [.int a1]) hM km_L_170 kk_X9_talls kn_X9 ki_X9_talls kl_X9_talls (T := TX9) (N := 8) rfl (by decide) ho rfl (n := 1) ⟨by decide +kernel, by decide +kernel, by decide +kernel⟩ rfl ⟨hroom, by decide⟩ hst hdg K
theorem cs_L_173 (hF : bzE g d nL cc "BronzeDownLaw" x) {o : Nat} {a1 : Int32} {d2 : Nat} {r0 : Int32} {τ : bzS} (ho : kd o = 10) (hM : ∀ l, Met l yX10_talls (Cond.code yX10_talls cX10_talls 3 (some .int) :: GW) (bzR d2) (va_Pc [.ref (ga g o), .int a1] (bzP g σ)) (va_Qi (fun (r : Int32) (u : bzS) => r = r0 ∧ u = τ) (bzB g) (gA g)) 0 0 (gA g)) (hroom : d2 + 1 ≤ d) (hst : (st.map fun v => v.category).sum ≤ 8) (hdg : decode cc pc = .ok (.invokevirtual 173, 3)) (K : bzJ g nL x τ (pc + 3) lv (.int r0 :: st)) : bzJ g nL x σ pc lv (.int a1 :: .ref (ga g o) :: st) := j_calliV hF (As := [.int a1]) hM km_L_173 kk_X10_talls kn_X10 ki_X10_talls kl_X10_talls (T := TX10) (N := 27) rfl (by decide) ho rfl (n := 1) ⟨by decide +kernel, by decide +kernel, by decide +kernel⟩ rfl ⟨hroom, by decide⟩ hst hdg K
theorem cs_L_174 (hF : bzE g d nL cc "BronzeDownLaw" x) {o : Nat} {a1 : Int32} {d2 : Nat} {r0 : Int32} {τ : bzS} (ho : kd o = 9) (hM : ∀ l, Met l yX9_judge (Cond.code yX9_judge cX9_judge 3 (some .int) :: GW) (bzR d2) (va_Pc [.ref (ga g o), .int a1] (bzP g σ)) (va_Qi (fun (r : Int32) (u : bzS) => r = r0 ∧ u = τ) (bzB g) (gA g)) 0 0 (gA g)) (hroom : d2 + 1 ≤ d) (hst : (st.map fun v => v.category).sum ≤ 8) (hdg : decode cc pc = .ok (.invokevirtual 174, 3)) (K : bzJ g nL x τ (pc + 3) lv (.int r0 :: st)) : bzJ g nL x σ pc lv (.int a1 :: .ref (ga g o) :: st) := j_calliV hF (As := [.int a1]) hM km_L_174 kk_X9_judge kn_X9 ki_X9_judge kl_X9_judge (T := TX9) (N := 8) rfl (by decide) ho rfl (n := 1) ⟨by decide +kernel, by decide +kernel, by decide +kernel⟩ rfl ⟨hroom, by decide⟩ hst hdg K
theorem cs_L_177 (hF : bzE g d nL cc "BronzeDownLaw" x) {o : Nat} {a1 : Int32} {d2 : Nat} {r0 : Int32} {τ : bzS} (ho : kd o = 10) (hM : ∀ l, Met l yX10_judge (Cond.code yX10_judge cX10_judge 3 (some .int) :: GW) (bzR d2) (va_Pc [.ref (ga g o), .int a1] (bzP g σ)) (va_Qi (fun (r : Int32) (u : bzS) => r = r0 ∧ u = τ) (bzB g) (gA g)) 0 0 (gA g)) (hroom : d2 + 1 ≤ d) (hst : (st.map fun v => v.category).sum ≤ 8) (hdg : decode cc pc = .ok (.invokevirtual 177, 3)) (K : bzJ g nL x τ (pc + 3) lv (.int r0 :: st)) : bzJ g nL x σ pc lv (.int a1 :: .ref (ga g o) :: st) := j_calliV hF (As := [.int a1]) hM km_L_177 kk_X10_judge kn_X10 ki_X10_judge kl_X10_judge (T := TX10) (N := 27) rfl (by decide) ho rfl (n := 1) ⟨by decide +kernel, by decide +kernel, by decide +kernel⟩ rfl ⟨hroom, by decide⟩ hst hdg K
theorem cs_L_178 (hF : bzE g d nL cc "BronzeDownLaw" x) {o : Nat} {d2 : Nat} {r0 : Int32} {τ : bzS} (ho : kd o = 9) (hM : ∀ l, Met l yX9_image (Cond.code yX9_image cX9_image 1 (some .int) :: GW) (bzR d2) (va_Pc [.ref (ga g o)] (bzP g σ)) (va_Qi (fun (r : Int32) (u : bzS) => r = r0 ∧ u = τ) (bzB g) (gA g)) 0 0 (gA g)) (hroom : d2 + 1 ≤ d) (hst : (st.map fun v => v.category).sum ≤ 8) (hdg : decode cc pc = .ok (.invokevirtual 178, 3)) (K : bzJ g nL x τ (pc + 3) lv (.int r0 :: st)) : bzJ g nL x σ pc lv (.ref (ga g o) :: st) := j_calliV hF (As := []) hM km_L_178 kk_X9_image kn_X9 ki_X9_image kl_X9_image (T := TX9) (N := 8) rfl (by decide) ho rfl (n := 0) ⟨by decide +kernel, by decide +kernel, by decide +kernel⟩ rfl ⟨hroom, by decide⟩ hst hdg K
theorem cs_L_181 (hF : bzE g d nL cc "BronzeDownLaw" x) {o : Nat} {d2 : Nat} {r0 : Int32} {τ : bzS} (ho : kd o = 10) (hM : ∀ l, Met l yX10_image (Cond.code yX10_image cX10_image 1 (some .int) :: GW) (bzR d2) (va_Pc [.ref (ga g o)] (bzP g σ)) (va_Qi (fun (r : Int32) (u : bzS) => r = r0 ∧ u = τ) (bzB g) (gA g)) 0 0 (gA g)) (hroom : d2 + 1 ≤ d) (hst : (st.map fun v => v.category).sum ≤ 8) (hdg : decode cc pc = .ok (.invokevirtual 181, 3)) (K : bzJ g nL x τ (pc + 3) lv (.int r0 :: st)) : bzJ g nL x σ pc lv (.ref (ga g o) :: st) := j_calliV hF (As := []) hM km_L_181 kk_X10_image kn_X10 ki_X10_image kl_X10_image (T := TX10) (N := 27) rfl (by decide) ho rfl (n := 0) ⟨by decide +kernel, by decide +kernel, by decide +kernel⟩ rfl ⟨hroom, by decide⟩ hst hdg K
theorem cs_L_182 (hF : bzE g d nL cc "BronzeDownLaw" x) {o : Nat} {d2 : Nat} {r0 : Int32} {τ : bzS} (ho : kd o = 9) (hM : ∀ l, Met l yX9_restore (Cond.code yX9_restore cX9_restore 1 (some .int) :: GW) (bzR d2) (va_Pc [.ref (ga g o)] (bzP g σ)) (va_Qi (fun (r : Int32) (u : bzS) => r = r0 ∧ u = τ) (bzB g) (gA g)) 0 0 (gA g)) (hroom : d2 + 1 ≤ d) (hst : (st.map fun v => v.category).sum ≤ 8) (hdg : decode cc pc = .ok (.invokevirtual 182, 3)) (K : bzJ g nL x τ (pc + 3) lv (.int r0 :: st)) : bzJ g nL x σ pc lv (.ref (ga g o) :: st) := j_calliV hF (As := []) hM km_L_182 kk_X9_restore kn_X9 ki_X9_restore kl_X9_restore (T := TX9) (N := 8) rfl (by decide) ho rfl (n := 0) ⟨by decide +kernel, by decide +kernel, by decide +kernel⟩ rfl ⟨hroom, by decide⟩ hst hdg K
theorem cs_L_185 (hF : bzE g d nL cc "BronzeDownLaw" x) {o : Nat} {d2 : Nat} {r0 : Int32} {τ : bzS} (ho : kd o = 10) (hM : ∀ l, Met l yX10_restore (Cond.code yX10_restore cX10_restore 1 (some .int) :: GW) (bzR d2) (va_Pc [.ref (ga g o)] (bzP g σ)) (va_Qi (fun (r : Int32) (u : bzS) => r = r0 ∧ u = τ) (bzB g) (gA g)) 0 0 (gA g)) (hroom : d2 + 1 ≤ d) (hst : (st.map fun v => v.category).sum ≤ 8) (hdg : decode cc pc = .ok (.invokevirtual 185, 3)) (K : bzJ g nL x τ (pc + 3) lv (.int r0 :: st)) : bzJ g nL x σ pc lv (.ref (ga g o) :: st) := j_calliV hF (As := []) hM km_L_185 kk_X10_restore kn_X10 ki_X10_restore kl_X10_restore (T := TX10) (N := 27) rfl (by decide) ho rfl (n := 0) ⟨by decide +kernel, by decide +kernel, by decide +kernel⟩ rfl ⟨hroom, by decide⟩ hst hdg K
theorem cs_L_186 (hF : bzE g d nL cc "BronzeDownLaw" x) {o : Nat} {a1 : Int32} {d2 : Nat} {r0 : Int32} {τ : bzS} (ho : kd o = 9) (hM : ∀ l, Met l yX9_tell (Cond.code yX9_tell cX9_tell 2 (some .int) :: GW) (bzR d2) (va_Pc [.ref (ga g o), .int a1] (bzP g σ)) (va_Qi (fun (r : Int32) (u : bzS) => r = r0 ∧ u = τ) (bzB g) (gA g)) 0 0 (gA g)) (hroom : d2 + 1 ≤ d) (hst : (st.map fun v => v.category).sum ≤ 8) (hdg : decode cc pc = .ok (.invokevirtual 186, 3)) (K : bzJ g nL x τ (pc + 3) lv (.int r0 :: st)) : bzJ g nL x σ pc lv (.int a1 :: .ref (ga g o) :: st) := j_calliV hF (As := [.int a1]) hM km_L_186 kk_X9_tell kn_X9 ki_X9_tell kl_X9_tell (T := TX9) (N := 8) rfl (by decide) ho rfl (n := 1) ⟨by decide +kernel, by decide +kernel, by decide +kernel⟩ rfl ⟨hroom, by decide⟩ hst hdg K
theorem cs_L_189 (hF : bzE g d nL cc "BronzeDownLaw" x) {o : Nat} {a1 : Int32} {d2 : Nat} {r0 : Int32} {τ : bzS} (ho : kd o = 10) (hM : ∀ l, Met l yX10_tell (Cond.code yX10_tell cX10_tell 2 (some .int) :: GW) (bzR d2) (va_Pc [.ref (ga g o), .int a1] (bzP g σ)) (va_Qi (fun (r : Int32) (u : bzS) => r = r0 ∧ u = τ) (bzB g) (gA g)) 0 0 (gA g)) (hroom : d2 + 1 ≤ d) (hst : (st.map fun v => v.category).sum ≤ 8) (hdg : decode cc pc = .ok (.invokevirtual 189, 3)) (K : bzJ g nL x τ (pc + 3) lv (.int r0 :: st)) : bzJ g nL x σ pc lv (.int a1 :: .ref (ga g o) :: st) := j_calliV hF (As := [.int a1]) hM km_L_189 kk_X10_tell kn_X10 ki_X10_tell kl_X10_tell (T := TX10) (N := 27) rfl (by decide) ho rfl (n := 1) ⟨by decide +kernel, by decide +kernel, by decide +kernel⟩ rfl ⟨hroom, by decide⟩ hst hdg K
theorem cs_L_190 (hF : bzE g d nL cc "BronzeDownLaw" x) {o : Nat} {d2 : Nat} {r0 : Int32} {τ : bzS} (ho : kd o = 9) (hM : ∀ l, Met l yX9_check (Cond.code yX9_check cX9_check 2 (some .int) :: GW) (bzR d2) (va_Pc [.ref (ga g o)] (bzP g σ)) (va_Qi (fun (r : Int32) (u : bzS) => r = r0 ∧ u = τ) (bzB g) (gA g)) 0 0 (gA g)) (hroom : d2 + 1 ≤ d) (hst : (st.map fun v => v.category).sum ≤ 8) (hdg : decode cc pc = .ok (.invokevirtual 190, 3)) (K : bzJ g nL x τ (pc + 3) lv (.int r0 :: st)) : bzJ g nL x σ pc lv (.ref (ga g o) :: st) := j_calliV hF (As := []) hM km_L_190 kk_X9_check kn_X9 ki_X9_check kl_X9_check (T := TX9) (N := 8) rfl (by decide) ho rfl (n := 0) ⟨by decide +kernel, by decide +kernel, by decide +kernel⟩ rfl ⟨hroom, by decide⟩ hst hdg K
theorem cs_L_193 (hF : bzE g d nL cc "BronzeDownLaw" x) {o : Nat} {d2 : Nat} {r0 : Int32} {τ : bzS} (ho : kd o = 10) (hM : ∀ l, Met l yX10_check (Cond.code yX10_check cX10_check 4 (some .int) :: GW) (bzR d2) (va_Pc [.ref (ga g o)] (bzP g σ)) (va_Qi (fun (r : Int32) (u : bzS) => r = r0 ∧ u = τ) (bzB g) (gA g)) 0 0 (gA g)) (hroom : d2 + 1 ≤ d) (hst : (st.map fun v => v.category).sum ≤ 8) (hdg : decode cc pc = .ok (.invokevirtual 193, 3)) (K : bzJ g nL x τ (pc + 3) lv (.int r0 :: st)) : bzJ g nL x σ pc lv (.ref (ga g o) :: st) := j_calliV hF (As := []) hM km_L_193 kk_X10_check kn_X10 ki_X10_check kl_X10_check (T := TX10) (N := 27) rfl (by decide) ho rfl (n := 0) ⟨by decide +kernel, by decide +kernel, by decide +kernel⟩ rfl ⟨hroom, by decide⟩ hst hdg K
theorem cs_L_194 (hF : bzE g d nL cc "BronzeDownLaw" x) {o : Nat} {a1 : Int32} {d2 : Nat} {r0 : Int32} {τ : bzS} (ho : kd o = 9) (hM : ∀ l, Met l yX9_count (Cond.code yX9_count cX9_count 2 (some .int) :: GW) (bzR d2) (va_Pc [.ref (ga g o), .int a1] (bzP g σ)) (va_Qi (fun (r : Int32) (u : bzS) => r = r0 ∧ u = τ) (bzB g) (gA g)) 0 0 (gA g)) (hroom : d2 + 1 ≤ d) (hst : (st.map fun v => v.category).sum ≤ 8) (hdg : decode cc pc = .ok (.invokevirtual 194, 3)) (K : bzJ g nL x τ (pc + 3) lv (.int r0 :: st)) : bzJ g nL x σ pc lv (.int a1 :: .ref (ga g o) :: st) := j_calliV hF (As := [.int a1]) hM km_L_194 kk_X9_count kn_X9 ki_X9_count kl_X9_count (T := TX9) (N := 8) rfl (by decide) ho rfl (n := 1) ⟨by decide +kernel, by decide +kernel, by decide +kernel⟩ rfl ⟨hroom, by decide⟩ hst hdg K
theorem cs_L_197 (hF : bzE g d nL cc "BronzeDownLaw" x) {o : Nat} {a1 : Int32} {d2 : Nat} {r0 : Int32} {τ : bzS} (ho : kd o = 10) (hM : ∀ l, Met l yX10_count (Cond.code yX10_count cX10_count 2 (some .int) :: GW) (bzR d2) (va_Pc [.ref (ga g o), .int a1] (bzP g σ)) (va_Qi (fun (r : Int32) (u : bzS) => r = r0 ∧ u = τ) (bzB g) (gA g)) 0 0 (gA g)) (hroom : d2 + 1 ≤ d) (hst : (st.map fun v => v.category).sum ≤ 8) (hdg : decode cc pc = .ok (.invokevirtual 197, 3)) (K : bzJ g nL x τ (pc + 3) lv (.int r0 :: st)) : bzJ g nL x σ pc lv (.int a1 :: .ref (ga g o) :: st) := j_calliV hF (As := [.int a1]) hM km_L_197 kk_X10_count kn_X10 ki_X10_count kl_X10_count (T := TX10) (N := 27) rfl (by decide) ho rfl (n := 1) ⟨by decide +kernel, by decide +kernel, by decide +kernel⟩ rfl ⟨hroom, by decide⟩ hst hdg K
theorem cs_L_198 (hF : bzE g d nL cc "BronzeDownLaw" x) {o : Nat} {a1 : Int32} {d2 : Nat} {r0 : Int32} {τ : bzS} (ho : kd o = 9) (hM : ∀ l, Met l yX9_told (Cond.code yX9_told cX9_told 2 (some .int) :: GW) (bzR d2) (va_Pc [.ref (ga g o), .int a1] (bzP g σ)) (va_Qi (fun (r : Int32) (u : bzS) => r = r0 ∧ u = τ) (bzB g) (gA g)) 0 0 (gA g)) (hroom : d2 + 1 ≤ d) (hst : (st.map fun v => v.category).sum ≤ 8) (hdg : decode cc pc = .ok (.invokevirtual 198, 3)) (K : bzJ g nL x τ (pc + 3) lv (.int r0 :: st)) : bzJ g nL x σ pc lv (.int a1 :: .ref (ga g o) :: st) := j_calliV hF (As := [.int a1]) hM km_L_198 kk_X9_told kn_X9 ki_X9_told kl_X9_told (T := TX9) (N := 8) rfl (by decide) ho rfl (n := 1) ⟨by decide +kernel, by decide +kernel, by decide +kernel⟩ rfl ⟨hroom, by decide⟩ hst hdg K
theorem cs_L_201 (hF : bzE g d nL cc "BronzeDownLaw" x) {o : Nat} {a1 : Int32} {d2 : Nat} {r0 : Int32} {τ : bzS} (ho : kd o = 10) (hM : ∀ l, Met l yX10_told (Cond.code yX10_told cX10_told 2 (some .int) :: GW) (bzR d2) (va_Pc [.ref (ga g o), .int a1] (bzP g σ)) (va_Qi (fun (r : Int32) (u : bzS) => r = r0 ∧ u = τ) (bzB g) (gA g)) 0 0 (gA g)) (hroom : d2 + 1 ≤ d) (hst : (st.map fun v => v.category).sum ≤ 8) (hdg : decode cc pc = .ok (.invokevirtual 201, 3)) (K : bzJ g nL x τ (pc + 3) lv (.int r0 :: st)) : bzJ g nL x σ pc lv (.int a1 :: .ref (ga g o) :: st) := j_calliV hF (As := [.int a1]) hM km_L_201 kk_X10_told kn_X10 ki_X10_told kl_X10_told (T := TX10) (N := 27) rfl (by decide) ho rfl (n := 1) ⟨by decide +kernel, by decide +kernel, by decide +kernel⟩ rfl ⟨hroom, by decide⟩ hst hdg K
end

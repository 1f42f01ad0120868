-- the rows of the law, decoded
theorem d_L_0 : decode code 0 = .ok (.new 7, 3) := by decide +kernel
theorem d_L_3 : decode code 3 = .ok (.dup, 1) := by decide +kernel
theorem d_L_4 : decode code 4 = .ok (.invokespecial 9, 3) := by decide +kernel
theorem d_L_7 : decode code 7 = .ok (.astore_n 1, 1) := by decide +kernel
theorem d_L_8 : decode code 8 = .ok (.new 10, 3) := by decide +kernel
theorem d_L_11 : decode code 11 = .ok (.dup, 1) := by decide +kernel
theorem d_L_12 : decode code 12 = .ok (.invokespecial 12, 3) := by decide +kernel
theorem d_L_15 : decode code 15 = .ok (.astore_n 2, 1) := by decide +kernel
theorem d_L_16 : decode code 16 = .ok (.iconst 0, 1) := by decide +kernel
theorem d_L_17 : decode code 17 = .ok (.istore_n 3, 1) := by decide +kernel
theorem d_L_18 : decode code 18 = .ok (.iload_n 3, 1) := by decide +kernel
theorem d_L_19 : decode code 19 = .ok (.aload_n 0, 1) := by decide +kernel
theorem d_L_20 : decode code 20 = .ok (.arraylength, 1) := by decide +kernel
theorem d_L_21 : decode code 21 = .ok (.bipush 6, 2) := by decide +kernel
theorem d_L_23 : decode code 23 = .ok (.isub, 1) := by decide +kernel
theorem d_L_24 : decode code 24 = .ok (.if_icmp .gt 1311, 3) := by decide +kernel
theorem d_L_27 : decode code 27 = .ok (.aload_n 0, 1) := by decide +kernel
theorem d_L_28 : decode code 28 = .ok (.iload_n 3, 1) := by decide +kernel
theorem d_L_29 : decode code 29 = .ok (.iaload, 1) := by decide +kernel
theorem d_L_30 : decode code 30 = .ok (.bipush 63, 2) := by decide +kernel
theorem d_L_32 : decode code 32 = .ok (.iand, 1) := by decide +kernel
theorem d_L_33 : decode code 33 = .ok (.tableswitch 1296 0 43 #[191, 224, 267, 300, 323, 386, 409, 442, 485, 508, 531, 564, 597, 610, 633, 656, 679, 702, 725, 748, 761, 774, 787, 810, 843, 866, 889, 912, 935, 958, 991, 1024, 1057, 1080, 1103, 1126, 1149, 1182, 1195, 1209, 1223, 1246, 1259, 1282], 191) := by decide +kernel
theorem d_L_224 : decode code 224 = .ok (.aload_n 1, 1) := by decide +kernel
theorem d_L_225 : decode code 225 = .ok (.aload_n 0, 1) := by decide +kernel
theorem d_L_226 : decode code 226 = .ok (.iload_n 3, 1) := by decide +kernel
theorem d_L_227 : decode code 227 = .ok (.iconst 1, 1) := by decide +kernel
theorem d_L_228 : decode code 228 = .ok (.iadd, 1) := by decide +kernel
theorem d_L_229 : decode code 229 = .ok (.iaload, 1) := by decide +kernel
theorem d_L_230 : decode code 230 = .ok (.aload_n 0, 1) := by decide +kernel
theorem d_L_231 : decode code 231 = .ok (.iload_n 3, 1) := by decide +kernel
theorem d_L_232 : decode code 232 = .ok (.iconst 2, 1) := by decide +kernel
theorem d_L_233 : decode code 233 = .ok (.iadd, 1) := by decide +kernel
theorem d_L_234 : decode code 234 = .ok (.iaload, 1) := by decide +kernel
theorem d_L_235 : decode code 235 = .ok (.invokevirtual 13, 3) := by decide +kernel
theorem d_L_238 : decode code 238 = .ok (.aload_n 2, 1) := by decide +kernel
theorem d_L_239 : decode code 239 = .ok (.aload_n 0, 1) := by decide +kernel
theorem d_L_240 : decode code 240 = .ok (.iload_n 3, 1) := by decide +kernel
theorem d_L_241 : decode code 241 = .ok (.iconst 1, 1) := by decide +kernel
theorem d_L_242 : decode code 242 = .ok (.iadd, 1) := by decide +kernel
theorem d_L_243 : decode code 243 = .ok (.iaload, 1) := by decide +kernel
theorem d_L_244 : decode code 244 = .ok (.aload_n 0, 1) := by decide +kernel
theorem d_L_245 : decode code 245 = .ok (.iload_n 3, 1) := by decide +kernel
theorem d_L_246 : decode code 246 = .ok (.iconst 2, 1) := by decide +kernel
theorem d_L_247 : decode code 247 = .ok (.iadd, 1) := by decide +kernel
theorem d_L_248 : decode code 248 = .ok (.iaload, 1) := by decide +kernel
theorem d_L_249 : decode code 249 = .ok (.invokevirtual 17, 3) := by decide +kernel
theorem d_L_252 : decode code 252 = .ok (.if_icmp .eq 1077, 3) := by decide +kernel
theorem d_L_255 : decode code 255 = .ok (.iconst 0, 1) := by decide +kernel
theorem d_L_256 : decode code 256 = .ok (.ireturn, 1) := by decide +kernel
theorem d_L_257 : decode code 257 = .ok (.aload_n 1, 1) := by decide +kernel
theorem d_L_258 : decode code 258 = .ok (.aload_n 0, 1) := by decide +kernel
theorem d_L_259 : decode code 259 = .ok (.iload_n 3, 1) := by decide +kernel
theorem d_L_260 : decode code 260 = .ok (.iconst 1, 1) := by decide +kernel
theorem d_L_261 : decode code 261 = .ok (.iadd, 1) := by decide +kernel
theorem d_L_262 : decode code 262 = .ok (.iaload, 1) := by decide +kernel
theorem d_L_263 : decode code 263 = .ok (.aload_n 0, 1) := by decide +kernel
theorem d_L_264 : decode code 264 = .ok (.iload_n 3, 1) := by decide +kernel
theorem d_L_265 : decode code 265 = .ok (.iconst 2, 1) := by decide +kernel
theorem d_L_266 : decode code 266 = .ok (.iadd, 1) := by decide +kernel
theorem d_L_267 : decode code 267 = .ok (.iaload, 1) := by decide +kernel
theorem d_L_268 : decode code 268 = .ok (.aload_n 0, 1) := by decide +kernel
theorem d_L_269 : decode code 269 = .ok (.iload_n 3, 1) := by decide +kernel
theorem d_L_270 : decode code 270 = .ok (.iconst 3, 1) := by decide +kernel
theorem d_L_271 : decode code 271 = .ok (.iadd, 1) := by decide +kernel
theorem d_L_272 : decode code 272 = .ok (.iaload, 1) := by decide +kernel
theorem d_L_273 : decode code 273 = .ok (.invokevirtual 18, 3) := by decide +kernel
theorem d_L_276 : decode code 276 = .ok (.aload_n 2, 1) := by decide +kernel
theorem d_L_277 : decode code 277 = .ok (.aload_n 0, 1) := by decide +kernel
theorem d_L_278 : decode code 278 = .ok (.iload_n 3, 1) := by decide +kernel
theorem d_L_279 : decode code 279 = .ok (.iconst 1, 1) := by decide +kernel
theorem d_L_280 : decode code 280 = .ok (.iadd, 1) := by decide +kernel
theorem d_L_281 : decode code 281 = .ok (.iaload, 1) := by decide +kernel
theorem d_L_282 : decode code 282 = .ok (.aload_n 0, 1) := by decide +kernel
theorem d_L_283 : decode code 283 = .ok (.iload_n 3, 1) := by decide +kernel
theorem d_L_284 : decode code 284 = .ok (.iconst 2, 1) := by decide +kernel
theorem d_L_285 : decode code 285 = .ok (.iadd, 1) := by decide +kernel
theorem d_L_286 : decode code 286 = .ok (.iaload, 1) := by decide +kernel
theorem d_L_287 : decode code 287 = .ok (.aload_n 0, 1) := by decide +kernel
theorem d_L_288 : decode code 288 = .ok (.iload_n 3, 1) := by decide +kernel
theorem d_L_289 : decode code 289 = .ok (.iconst 3, 1) := by decide +kernel
theorem d_L_290 : decode code 290 = .ok (.iadd, 1) := by decide +kernel
theorem d_L_291 : decode code 291 = .ok (.iaload, 1) := by decide +kernel
theorem d_L_292 : decode code 292 = .ok (.invokevirtual 22, 3) := by decide +kernel
theorem d_L_295 : decode code 295 = .ok (.if_icmp .eq 1034, 3) := by decide +kernel
theorem d_L_298 : decode code 298 = .ok (.iconst 0, 1) := by decide +kernel
theorem d_L_299 : decode code 299 = .ok (.ireturn, 1) := by decide +kernel
theorem d_L_300 : decode code 300 = .ok (.aload_n 1, 1) := by decide +kernel
theorem d_L_301 : decode code 301 = .ok (.aload_n 0, 1) := by decide +kernel
theorem d_L_302 : decode code 302 = .ok (.iload_n 3, 1) := by decide +kernel
theorem d_L_303 : decode code 303 = .ok (.iconst 1, 1) := by decide +kernel
theorem d_L_304 : decode code 304 = .ok (.iadd, 1) := by decide +kernel
theorem d_L_305 : decode code 305 = .ok (.iaload, 1) := by decide +kernel
theorem d_L_306 : decode code 306 = .ok (.aload_n 0, 1) := by decide +kernel
theorem d_L_307 : decode code 307 = .ok (.iload_n 3, 1) := by decide +kernel
theorem d_L_308 : decode code 308 = .ok (.iconst 2, 1) := by decide +kernel
theorem d_L_309 : decode code 309 = .ok (.iadd, 1) := by decide +kernel
theorem d_L_310 : decode code 310 = .ok (.iaload, 1) := by decide +kernel
theorem d_L_311 : decode code 311 = .ok (.invokevirtual 23, 3) := by decide +kernel
theorem d_L_314 : decode code 314 = .ok (.aload_n 2, 1) := by decide +kernel
theorem d_L_315 : decode code 315 = .ok (.aload_n 0, 1) := by decide +kernel
theorem d_L_316 : decode code 316 = .ok (.iload_n 3, 1) := by decide +kernel
theorem d_L_317 : decode code 317 = .ok (.iconst 1, 1) := by decide +kernel
theorem d_L_318 : decode code 318 = .ok (.iadd, 1) := by decide +kernel
theorem d_L_319 : decode code 319 = .ok (.iaload, 1) := by decide +kernel
theorem d_L_320 : decode code 320 = .ok (.aload_n 0, 1) := by decide +kernel
theorem d_L_321 : decode code 321 = .ok (.iload_n 3, 1) := by decide +kernel
theorem d_L_322 : decode code 322 = .ok (.iconst 2, 1) := by decide +kernel
theorem d_L_323 : decode code 323 = .ok (.iadd, 1) := by decide +kernel
theorem d_L_324 : decode code 324 = .ok (.iaload, 1) := by decide +kernel
theorem d_L_325 : decode code 325 = .ok (.invokevirtual 26, 3) := by decide +kernel
theorem d_L_328 : decode code 328 = .ok (.if_icmp .eq 1001, 3) := by decide +kernel
theorem d_L_331 : decode code 331 = .ok (.iconst 0, 1) := by decide +kernel
theorem d_L_332 : decode code 332 = .ok (.ireturn, 1) := by decide +kernel
theorem d_L_333 : decode code 333 = .ok (.aload_n 1, 1) := by decide +kernel
theorem d_L_334 : decode code 334 = .ok (.aload_n 0, 1) := by decide +kernel
theorem d_L_335 : decode code 335 = .ok (.iload_n 3, 1) := by decide +kernel
theorem d_L_336 : decode code 336 = .ok (.iconst 1, 1) := by decide +kernel
theorem d_L_337 : decode code 337 = .ok (.iadd, 1) := by decide +kernel
theorem d_L_338 : decode code 338 = .ok (.iaload, 1) := by decide +kernel
theorem d_L_339 : decode code 339 = .ok (.invokevirtual 27, 3) := by decide +kernel
theorem d_L_342 : decode code 342 = .ok (.aload_n 2, 1) := by decide +kernel
theorem d_L_343 : decode code 343 = .ok (.aload_n 0, 1) := by decide +kernel
theorem d_L_344 : decode code 344 = .ok (.iload_n 3, 1) := by decide +kernel
theorem d_L_345 : decode code 345 = .ok (.iconst 1, 1) := by decide +kernel
theorem d_L_346 : decode code 346 = .ok (.iadd, 1) := by decide +kernel
theorem d_L_347 : decode code 347 = .ok (.iaload, 1) := by decide +kernel
theorem d_L_348 : decode code 348 = .ok (.invokevirtual 31, 3) := by decide +kernel
theorem d_L_351 : decode code 351 = .ok (.if_icmp .eq 978, 3) := by decide +kernel
theorem d_L_354 : decode code 354 = .ok (.iconst 0, 1) := by decide +kernel
theorem d_L_355 : decode code 355 = .ok (.ireturn, 1) := by decide +kernel
theorem d_L_356 : decode code 356 = .ok (.aload_n 1, 1) := by decide +kernel
theorem d_L_357 : decode code 357 = .ok (.aload_n 0, 1) := by decide +kernel
theorem d_L_358 : decode code 358 = .ok (.iload_n 3, 1) := by decide +kernel
theorem d_L_359 : decode code 359 = .ok (.iconst 1, 1) := by decide +kernel
theorem d_L_360 : decode code 360 = .ok (.iadd, 1) := by decide +kernel
theorem d_L_361 : decode code 361 = .ok (.iaload, 1) := by decide +kernel
theorem d_L_362 : decode code 362 = .ok (.aload_n 0, 1) := by decide +kernel
theorem d_L_363 : decode code 363 = .ok (.iload_n 3, 1) := by decide +kernel
theorem d_L_364 : decode code 364 = .ok (.iconst 2, 1) := by decide +kernel
theorem d_L_365 : decode code 365 = .ok (.iadd, 1) := by decide +kernel
theorem d_L_366 : decode code 366 = .ok (.iaload, 1) := by decide +kernel
theorem d_L_367 : decode code 367 = .ok (.aload_n 0, 1) := by decide +kernel
theorem d_L_368 : decode code 368 = .ok (.iload_n 3, 1) := by decide +kernel
theorem d_L_369 : decode code 369 = .ok (.iconst 3, 1) := by decide +kernel
theorem d_L_370 : decode code 370 = .ok (.iadd, 1) := by decide +kernel
theorem d_L_371 : decode code 371 = .ok (.iaload, 1) := by decide +kernel
theorem d_L_372 : decode code 372 = .ok (.aload_n 0, 1) := by decide +kernel
theorem d_L_373 : decode code 373 = .ok (.iload_n 3, 1) := by decide +kernel
theorem d_L_374 : decode code 374 = .ok (.iconst 4, 1) := by decide +kernel
theorem d_L_375 : decode code 375 = .ok (.iadd, 1) := by decide +kernel
theorem d_L_376 : decode code 376 = .ok (.iaload, 1) := by decide +kernel
theorem d_L_377 : decode code 377 = .ok (.aload_n 0, 1) := by decide +kernel
theorem d_L_378 : decode code 378 = .ok (.iload_n 3, 1) := by decide +kernel
theorem d_L_379 : decode code 379 = .ok (.iconst 5, 1) := by decide +kernel
theorem d_L_380 : decode code 380 = .ok (.iadd, 1) := by decide +kernel
theorem d_L_381 : decode code 381 = .ok (.iaload, 1) := by decide +kernel
theorem d_L_382 : decode code 382 = .ok (.invokevirtual 32, 3) := by decide +kernel
theorem d_L_385 : decode code 385 = .ok (.aload_n 2, 1) := by decide +kernel
theorem d_L_386 : decode code 386 = .ok (.aload_n 0, 1) := by decide +kernel
theorem d_L_387 : decode code 387 = .ok (.iload_n 3, 1) := by decide +kernel
theorem d_L_388 : decode code 388 = .ok (.iconst 1, 1) := by decide +kernel
theorem d_L_389 : decode code 389 = .ok (.iadd, 1) := by decide +kernel
theorem d_L_390 : decode code 390 = .ok (.iaload, 1) := by decide +kernel
theorem d_L_391 : decode code 391 = .ok (.aload_n 0, 1) := by decide +kernel
theorem d_L_392 : decode code 392 = .ok (.iload_n 3, 1) := by decide +kernel
theorem d_L_393 : decode code 393 = .ok (.iconst 2, 1) := by decide +kernel
theorem d_L_394 : decode code 394 = .ok (.iadd, 1) := by decide +kernel
theorem d_L_395 : decode code 395 = .ok (.iaload, 1) := by decide +kernel
theorem d_L_396 : decode code 396 = .ok (.aload_n 0, 1) := by decide +kernel
theorem d_L_397 : decode code 397 = .ok (.iload_n 3, 1) := by decide +kernel
theorem d_L_398 : decode code 398 = .ok (.iconst 3, 1) := by decide +kernel
theorem d_L_399 : decode code 399 = .ok (.iadd, 1) := by decide +kernel
theorem d_L_400 : decode code 400 = .ok (.iaload, 1) := by decide +kernel
theorem d_L_401 : decode code 401 = .ok (.aload_n 0, 1) := by decide +kernel
theorem d_L_402 : decode code 402 = .ok (.iload_n 3, 1) := by decide +kernel
theorem d_L_403 : decode code 403 = .ok (.iconst 4, 1) := by decide +kernel
theorem d_L_404 : decode code 404 = .ok (.iadd, 1) := by decide +kernel
theorem d_L_405 : decode code 405 = .ok (.iaload, 1) := by decide +kernel
theorem d_L_406 : decode code 406 = .ok (.aload_n 0, 1) := by decide +kernel
theorem d_L_407 : decode code 407 = .ok (.iload_n 3, 1) := by decide +kernel
theorem d_L_408 : decode code 408 = .ok (.iconst 5, 1) := by decide +kernel
theorem d_L_409 : decode code 409 = .ok (.iadd, 1) := by decide +kernel
theorem d_L_410 : decode code 410 = .ok (.iaload, 1) := by decide +kernel
theorem d_L_411 : decode code 411 = .ok (.invokevirtual 36, 3) := by decide +kernel
theorem d_L_414 : decode code 414 = .ok (.if_icmp .eq 915, 3) := by decide +kernel
theorem d_L_417 : decode code 417 = .ok (.iconst 0, 1) := by decide +kernel
theorem d_L_418 : decode code 418 = .ok (.ireturn, 1) := by decide +kernel
theorem d_L_419 : decode code 419 = .ok (.aload_n 1, 1) := by decide +kernel
theorem d_L_420 : decode code 420 = .ok (.aload_n 0, 1) := by decide +kernel
theorem d_L_421 : decode code 421 = .ok (.iload_n 3, 1) := by decide +kernel
theorem d_L_422 : decode code 422 = .ok (.iconst 1, 1) := by decide +kernel
theorem d_L_423 : decode code 423 = .ok (.iadd, 1) := by decide +kernel
theorem d_L_424 : decode code 424 = .ok (.iaload, 1) := by decide +kernel
theorem d_L_425 : decode code 425 = .ok (.invokevirtual 37, 3) := by decide +kernel
theorem d_L_428 : decode code 428 = .ok (.aload_n 2, 1) := by decide +kernel
theorem d_L_429 : decode code 429 = .ok (.aload_n 0, 1) := by decide +kernel
theorem d_L_430 : decode code 430 = .ok (.iload_n 3, 1) := by decide +kernel
theorem d_L_431 : decode code 431 = .ok (.iconst 1, 1) := by decide +kernel
theorem d_L_432 : decode code 432 = .ok (.iadd, 1) := by decide +kernel
theorem d_L_433 : decode code 433 = .ok (.iaload, 1) := by decide +kernel
theorem d_L_434 : decode code 434 = .ok (.invokevirtual 40, 3) := by decide +kernel
theorem d_L_437 : decode code 437 = .ok (.if_icmp .eq 892, 3) := by decide +kernel
theorem d_L_440 : decode code 440 = .ok (.iconst 0, 1) := by decide +kernel
theorem d_L_441 : decode code 441 = .ok (.ireturn, 1) := by decide +kernel
theorem d_L_442 : decode code 442 = .ok (.aload_n 1, 1) := by decide +kernel
theorem d_L_443 : decode code 443 = .ok (.aload_n 0, 1) := by decide +kernel
theorem d_L_444 : decode code 444 = .ok (.iload_n 3, 1) := by decide +kernel
theorem d_L_445 : decode code 445 = .ok (.iconst 1, 1) := by decide +kernel
theorem d_L_446 : decode code 446 = .ok (.iadd, 1) := by decide +kernel
theorem d_L_447 : decode code 447 = .ok (.iaload, 1) := by decide +kernel
theorem d_L_448 : decode code 448 = .ok (.aload_n 0, 1) := by decide +kernel
theorem d_L_449 : decode code 449 = .ok (.iload_n 3, 1) := by decide +kernel
theorem d_L_450 : decode code 450 = .ok (.iconst 2, 1) := by decide +kernel
theorem d_L_451 : decode code 451 = .ok (.iadd, 1) := by decide +kernel
theorem d_L_452 : decode code 452 = .ok (.iaload, 1) := by decide +kernel
theorem d_L_453 : decode code 453 = .ok (.invokevirtual 41, 3) := by decide +kernel
theorem d_L_456 : decode code 456 = .ok (.aload_n 2, 1) := by decide +kernel
theorem d_L_457 : decode code 457 = .ok (.aload_n 0, 1) := by decide +kernel
theorem d_L_458 : decode code 458 = .ok (.iload_n 3, 1) := by decide +kernel
theorem d_L_459 : decode code 459 = .ok (.iconst 1, 1) := by decide +kernel
theorem d_L_460 : decode code 460 = .ok (.iadd, 1) := by decide +kernel
theorem d_L_461 : decode code 461 = .ok (.iaload, 1) := by decide +kernel
theorem d_L_462 : decode code 462 = .ok (.aload_n 0, 1) := by decide +kernel
theorem d_L_463 : decode code 463 = .ok (.iload_n 3, 1) := by decide +kernel
theorem d_L_464 : decode code 464 = .ok (.iconst 2, 1) := by decide +kernel
theorem d_L_465 : decode code 465 = .ok (.iadd, 1) := by decide +kernel
theorem d_L_466 : decode code 466 = .ok (.iaload, 1) := by decide +kernel
theorem d_L_467 : decode code 467 = .ok (.invokevirtual 44, 3) := by decide +kernel
theorem d_L_470 : decode code 470 = .ok (.if_icmp .eq 859, 3) := by decide +kernel
theorem d_L_473 : decode code 473 = .ok (.iconst 0, 1) := by decide +kernel
theorem d_L_474 : decode code 474 = .ok (.ireturn, 1) := by decide +kernel
theorem d_L_475 : decode code 475 = .ok (.aload_n 1, 1) := by decide +kernel
theorem d_L_476 : decode code 476 = .ok (.aload_n 0, 1) := by decide +kernel
theorem d_L_477 : decode code 477 = .ok (.iload_n 3, 1) := by decide +kernel
theorem d_L_478 : decode code 478 = .ok (.iconst 1, 1) := by decide +kernel
theorem d_L_479 : decode code 479 = .ok (.iadd, 1) := by decide +kernel
theorem d_L_480 : decode code 480 = .ok (.iaload, 1) := by decide +kernel
theorem d_L_481 : decode code 481 = .ok (.aload_n 0, 1) := by decide +kernel
theorem d_L_482 : decode code 482 = .ok (.iload_n 3, 1) := by decide +kernel
theorem d_L_483 : decode code 483 = .ok (.iconst 2, 1) := by decide +kernel
theorem d_L_484 : decode code 484 = .ok (.iadd, 1) := by decide +kernel
theorem d_L_485 : decode code 485 = .ok (.iaload, 1) := by decide +kernel
theorem d_L_486 : decode code 486 = .ok (.aload_n 0, 1) := by decide +kernel
theorem d_L_487 : decode code 487 = .ok (.iload_n 3, 1) := by decide +kernel
theorem d_L_488 : decode code 488 = .ok (.iconst 3, 1) := by decide +kernel
theorem d_L_489 : decode code 489 = .ok (.iadd, 1) := by decide +kernel
theorem d_L_490 : decode code 490 = .ok (.iaload, 1) := by decide +kernel
theorem d_L_491 : decode code 491 = .ok (.invokevirtual 45, 3) := by decide +kernel
theorem d_L_494 : decode code 494 = .ok (.aload_n 2, 1) := by decide +kernel
theorem d_L_495 : decode code 495 = .ok (.aload_n 0, 1) := by decide +kernel
theorem d_L_496 : decode code 496 = .ok (.iload_n 3, 1) := by decide +kernel
theorem d_L_497 : decode code 497 = .ok (.iconst 1, 1) := by decide +kernel
theorem d_L_498 : decode code 498 = .ok (.iadd, 1) := by decide +kernel
theorem d_L_499 : decode code 499 = .ok (.iaload, 1) := by decide +kernel
theorem d_L_500 : decode code 500 = .ok (.aload_n 0, 1) := by decide +kernel
theorem d_L_501 : decode code 501 = .ok (.iload_n 3, 1) := by decide +kernel
theorem d_L_502 : decode code 502 = .ok (.iconst 2, 1) := by decide +kernel
theorem d_L_503 : decode code 503 = .ok (.iadd, 1) := by decide +kernel
theorem d_L_504 : decode code 504 = .ok (.iaload, 1) := by decide +kernel
theorem d_L_505 : decode code 505 = .ok (.aload_n 0, 1) := by decide +kernel
theorem d_L_506 : decode code 506 = .ok (.iload_n 3, 1) := by decide +kernel
theorem d_L_507 : decode code 507 = .ok (.iconst 3, 1) := by decide +kernel
theorem d_L_508 : decode code 508 = .ok (.iadd, 1) := by decide +kernel
theorem d_L_509 : decode code 509 = .ok (.iaload, 1) := by decide +kernel
theorem d_L_510 : decode code 510 = .ok (.invokevirtual 48, 3) := by decide +kernel
theorem d_L_513 : decode code 513 = .ok (.if_icmp .eq 816, 3) := by decide +kernel
theorem d_L_516 : decode code 516 = .ok (.iconst 0, 1) := by decide +kernel
theorem d_L_517 : decode code 517 = .ok (.ireturn, 1) := by decide +kernel
theorem d_L_518 : decode code 518 = .ok (.aload_n 1, 1) := by decide +kernel
theorem d_L_519 : decode code 519 = .ok (.aload_n 0, 1) := by decide +kernel
theorem d_L_520 : decode code 520 = .ok (.iload_n 3, 1) := by decide +kernel
theorem d_L_521 : decode code 521 = .ok (.iconst 1, 1) := by decide +kernel
theorem d_L_522 : decode code 522 = .ok (.iadd, 1) := by decide +kernel
theorem d_L_523 : decode code 523 = .ok (.iaload, 1) := by decide +kernel
theorem d_L_524 : decode code 524 = .ok (.invokevirtual 49, 3) := by decide +kernel
theorem d_L_527 : decode code 527 = .ok (.aload_n 2, 1) := by decide +kernel
theorem d_L_528 : decode code 528 = .ok (.aload_n 0, 1) := by decide +kernel
theorem d_L_529 : decode code 529 = .ok (.iload_n 3, 1) := by decide +kernel
theorem d_L_530 : decode code 530 = .ok (.iconst 1, 1) := by decide +kernel
theorem d_L_531 : decode code 531 = .ok (.iadd, 1) := by decide +kernel
theorem d_L_532 : decode code 532 = .ok (.iaload, 1) := by decide +kernel
theorem d_L_533 : decode code 533 = .ok (.invokevirtual 52, 3) := by decide +kernel
theorem d_L_536 : decode code 536 = .ok (.if_icmp .eq 793, 3) := by decide +kernel
theorem d_L_539 : decode code 539 = .ok (.iconst 0, 1) := by decide +kernel
theorem d_L_540 : decode code 540 = .ok (.ireturn, 1) := by decide +kernel
theorem d_L_541 : decode code 541 = .ok (.aload_n 1, 1) := by decide +kernel
theorem d_L_542 : decode code 542 = .ok (.aload_n 0, 1) := by decide +kernel
theorem d_L_543 : decode code 543 = .ok (.iload_n 3, 1) := by decide +kernel
theorem d_L_544 : decode code 544 = .ok (.iconst 1, 1) := by decide +kernel
theorem d_L_545 : decode code 545 = .ok (.iadd, 1) := by decide +kernel
theorem d_L_546 : decode code 546 = .ok (.iaload, 1) := by decide +kernel
theorem d_L_547 : decode code 547 = .ok (.invokevirtual 53, 3) := by decide +kernel
theorem d_L_550 : decode code 550 = .ok (.aload_n 2, 1) := by decide +kernel
theorem d_L_551 : decode code 551 = .ok (.aload_n 0, 1) := by decide +kernel
theorem d_L_552 : decode code 552 = .ok (.iload_n 3, 1) := by decide +kernel
theorem d_L_553 : decode code 553 = .ok (.iconst 1, 1) := by decide +kernel
theorem d_L_554 : decode code 554 = .ok (.iadd, 1) := by decide +kernel
theorem d_L_555 : decode code 555 = .ok (.iaload, 1) := by decide +kernel
theorem d_L_556 : decode code 556 = .ok (.invokevirtual 56, 3) := by decide +kernel
theorem d_L_559 : decode code 559 = .ok (.if_icmp .eq 770, 3) := by decide +kernel
theorem d_L_562 : decode code 562 = .ok (.iconst 0, 1) := by decide +kernel
theorem d_L_563 : decode code 563 = .ok (.ireturn, 1) := by decide +kernel
theorem d_L_564 : decode code 564 = .ok (.aload_n 1, 1) := by decide +kernel
theorem d_L_565 : decode code 565 = .ok (.aload_n 0, 1) := by decide +kernel
theorem d_L_566 : decode code 566 = .ok (.iload_n 3, 1) := by decide +kernel
theorem d_L_567 : decode code 567 = .ok (.iconst 1, 1) := by decide +kernel
theorem d_L_568 : decode code 568 = .ok (.iadd, 1) := by decide +kernel
theorem d_L_569 : decode code 569 = .ok (.iaload, 1) := by decide +kernel
theorem d_L_570 : decode code 570 = .ok (.aload_n 0, 1) := by decide +kernel
theorem d_L_571 : decode code 571 = .ok (.iload_n 3, 1) := by decide +kernel
theorem d_L_572 : decode code 572 = .ok (.iconst 2, 1) := by decide +kernel
theorem d_L_573 : decode code 573 = .ok (.iadd, 1) := by decide +kernel
theorem d_L_574 : decode code 574 = .ok (.iaload, 1) := by decide +kernel
theorem d_L_575 : decode code 575 = .ok (.invokevirtual 57, 3) := by decide +kernel
theorem d_L_578 : decode code 578 = .ok (.aload_n 2, 1) := by decide +kernel
theorem d_L_579 : decode code 579 = .ok (.aload_n 0, 1) := by decide +kernel
theorem d_L_580 : decode code 580 = .ok (.iload_n 3, 1) := by decide +kernel
theorem d_L_581 : decode code 581 = .ok (.iconst 1, 1) := by decide +kernel
theorem d_L_582 : decode code 582 = .ok (.iadd, 1) := by decide +kernel
theorem d_L_583 : decode code 583 = .ok (.iaload, 1) := by decide +kernel
theorem d_L_584 : decode code 584 = .ok (.aload_n 0, 1) := by decide +kernel
theorem d_L_585 : decode code 585 = .ok (.iload_n 3, 1) := by decide +kernel
theorem d_L_586 : decode code 586 = .ok (.iconst 2, 1) := by decide +kernel
theorem d_L_587 : decode code 587 = .ok (.iadd, 1) := by decide +kernel
theorem d_L_588 : decode code 588 = .ok (.iaload, 1) := by decide +kernel
theorem d_L_589 : decode code 589 = .ok (.invokevirtual 60, 3) := by decide +kernel
theorem d_L_592 : decode code 592 = .ok (.if_icmp .eq 737, 3) := by decide +kernel
theorem d_L_595 : decode code 595 = .ok (.iconst 0, 1) := by decide +kernel
theorem d_L_596 : decode code 596 = .ok (.ireturn, 1) := by decide +kernel
theorem d_L_597 : decode code 597 = .ok (.aload_n 1, 1) := by decide +kernel
theorem d_L_598 : decode code 598 = .ok (.aload_n 0, 1) := by decide +kernel
theorem d_L_599 : decode code 599 = .ok (.iload_n 3, 1) := by decide +kernel
theorem d_L_600 : decode code 600 = .ok (.iconst 1, 1) := by decide +kernel
theorem d_L_601 : decode code 601 = .ok (.iadd, 1) := by decide +kernel
theorem d_L_602 : decode code 602 = .ok (.iaload, 1) := by decide +kernel
theorem d_L_603 : decode code 603 = .ok (.aload_n 0, 1) := by decide +kernel
theorem d_L_604 : decode code 604 = .ok (.iload_n 3, 1) := by decide +kernel
theorem d_L_605 : decode code 605 = .ok (.iconst 2, 1) := by decide +kernel
theorem d_L_606 : decode code 606 = .ok (.iadd, 1) := by decide +kernel
theorem d_L_607 : decode code 607 = .ok (.iaload, 1) := by decide +kernel
theorem d_L_608 : decode code 608 = .ok (.invokevirtual 61, 3) := by decide +kernel
theorem d_L_611 : decode code 611 = .ok (.aload_n 2, 1) := by decide +kernel
theorem d_L_612 : decode code 612 = .ok (.aload_n 0, 1) := by decide +kernel
theorem d_L_613 : decode code 613 = .ok (.iload_n 3, 1) := by decide +kernel
theorem d_L_614 : decode code 614 = .ok (.iconst 1, 1) := by decide +kernel
theorem d_L_615 : decode code 615 = .ok (.iadd, 1) := by decide +kernel
theorem d_L_616 : decode code 616 = .ok (.iaload, 1) := by decide +kernel
theorem d_L_617 : decode code 617 = .ok (.aload_n 0, 1) := by decide +kernel
theorem d_L_618 : decode code 618 = .ok (.iload_n 3, 1) := by decide +kernel
theorem d_L_619 : decode code 619 = .ok (.iconst 2, 1) := by decide +kernel
theorem d_L_620 : decode code 620 = .ok (.iadd, 1) := by decide +kernel
theorem d_L_621 : decode code 621 = .ok (.iaload, 1) := by decide +kernel
theorem d_L_622 : decode code 622 = .ok (.invokevirtual 64, 3) := by decide +kernel
theorem d_L_625 : decode code 625 = .ok (.if_icmp .eq 704, 3) := by decide +kernel
theorem d_L_628 : decode code 628 = .ok (.iconst 0, 1) := by decide +kernel
theorem d_L_629 : decode code 629 = .ok (.ireturn, 1) := by decide +kernel
theorem d_L_630 : decode code 630 = .ok (.aload_n 1, 1) := by decide +kernel
theorem d_L_631 : decode code 631 = .ok (.invokevirtual 65, 3) := by decide +kernel
theorem d_L_634 : decode code 634 = .ok (.aload_n 2, 1) := by decide +kernel
theorem d_L_635 : decode code 635 = .ok (.invokevirtual 69, 3) := by decide +kernel
theorem d_L_638 : decode code 638 = .ok (.if_icmp .eq 691, 3) := by decide +kernel
theorem d_L_641 : decode code 641 = .ok (.iconst 0, 1) := by decide +kernel
theorem d_L_642 : decode code 642 = .ok (.ireturn, 1) := by decide +kernel
theorem d_L_643 : decode code 643 = .ok (.aload_n 1, 1) := by decide +kernel
theorem d_L_644 : decode code 644 = .ok (.aload_n 0, 1) := by decide +kernel
theorem d_L_645 : decode code 645 = .ok (.iload_n 3, 1) := by decide +kernel
theorem d_L_646 : decode code 646 = .ok (.iconst 1, 1) := by decide +kernel
theorem d_L_647 : decode code 647 = .ok (.iadd, 1) := by decide +kernel
theorem d_L_648 : decode code 648 = .ok (.iaload, 1) := by decide +kernel
theorem d_L_649 : decode code 649 = .ok (.invokevirtual 70, 3) := by decide +kernel
theorem d_L_652 : decode code 652 = .ok (.aload_n 2, 1) := by decide +kernel
theorem d_L_653 : decode code 653 = .ok (.aload_n 0, 1) := by decide +kernel
theorem d_L_654 : decode code 654 = .ok (.iload_n 3, 1) := by decide +kernel
theorem d_L_655 : decode code 655 = .ok (.iconst 1, 1) := by decide +kernel
theorem d_L_656 : decode code 656 = .ok (.iadd, 1) := by decide +kernel
theorem d_L_657 : decode code 657 = .ok (.iaload, 1) := by decide +kernel
theorem d_L_658 : decode code 658 = .ok (.invokevirtual 73, 3) := by decide +kernel
theorem d_L_661 : decode code 661 = .ok (.if_icmp .eq 668, 3) := by decide +kernel
theorem d_L_664 : decode code 664 = .ok (.iconst 0, 1) := by decide +kernel
theorem d_L_665 : decode code 665 = .ok (.ireturn, 1) := by decide +kernel
theorem d_L_666 : decode code 666 = .ok (.aload_n 1, 1) := by decide +kernel
theorem d_L_667 : decode code 667 = .ok (.aload_n 0, 1) := by decide +kernel
theorem d_L_668 : decode code 668 = .ok (.iload_n 3, 1) := by decide +kernel
theorem d_L_669 : decode code 669 = .ok (.iconst 1, 1) := by decide +kernel
theorem d_L_670 : decode code 670 = .ok (.iadd, 1) := by decide +kernel
theorem d_L_671 : decode code 671 = .ok (.iaload, 1) := by decide +kernel
theorem d_L_672 : decode code 672 = .ok (.invokevirtual 74, 3) := by decide +kernel
theorem d_L_675 : decode code 675 = .ok (.aload_n 2, 1) := by decide +kernel
theorem d_L_676 : decode code 676 = .ok (.aload_n 0, 1) := by decide +kernel
theorem d_L_677 : decode code 677 = .ok (.iload_n 3, 1) := by decide +kernel
theorem d_L_678 : decode code 678 = .ok (.iconst 1, 1) := by decide +kernel
theorem d_L_679 : decode code 679 = .ok (.iadd, 1) := by decide +kernel
theorem d_L_680 : decode code 680 = .ok (.iaload, 1) := by decide +kernel
theorem d_L_681 : decode code 681 = .ok (.invokevirtual 77, 3) := by decide +kernel
theorem d_L_684 : decode code 684 = .ok (.if_icmp .eq 645, 3) := by decide +kernel
theorem d_L_687 : decode code 687 = .ok (.iconst 0, 1) := by decide +kernel
theorem d_L_688 : decode code 688 = .ok (.ireturn, 1) := by decide +kernel
theorem d_L_689 : decode code 689 = .ok (.aload_n 1, 1) := by decide +kernel
theorem d_L_690 : decode code 690 = .ok (.aload_n 0, 1) := by decide +kernel
theorem d_L_691 : decode code 691 = .ok (.iload_n 3, 1) := by decide +kernel
theorem d_L_692 : decode code 692 = .ok (.iconst 1, 1) := by decide +kernel
theorem d_L_693 : decode code 693 = .ok (.iadd, 1) := by decide +kernel
theorem d_L_694 : decode code 694 = .ok (.iaload, 1) := by decide +kernel
theorem d_L_695 : decode code 695 = .ok (.invokevirtual 78, 3) := by decide +kernel
theorem d_L_698 : decode code 698 = .ok (.aload_n 2, 1) := by decide +kernel
theorem d_L_699 : decode code 699 = .ok (.aload_n 0, 1) := by decide +kernel
theorem d_L_700 : decode code 700 = .ok (.iload_n 3, 1) := by decide +kernel
theorem d_L_701 : decode code 701 = .ok (.iconst 1, 1) := by decide +kernel
theorem d_L_702 : decode code 702 = .ok (.iadd, 1) := by decide +kernel
theorem d_L_703 : decode code 703 = .ok (.iaload, 1) := by decide +kernel
theorem d_L_704 : decode code 704 = .ok (.invokevirtual 81, 3) := by decide +kernel
theorem d_L_707 : decode code 707 = .ok (.if_icmp .eq 622, 3) := by decide +kernel
theorem d_L_710 : decode code 710 = .ok (.iconst 0, 1) := by decide +kernel
theorem d_L_711 : decode code 711 = .ok (.ireturn, 1) := by decide +kernel
theorem d_L_712 : decode code 712 = .ok (.aload_n 1, 1) := by decide +kernel
theorem d_L_713 : decode code 713 = .ok (.aload_n 0, 1) := by decide +kernel
theorem d_L_714 : decode code 714 = .ok (.iload_n 3, 1) := by decide +kernel
theorem d_L_715 : decode code 715 = .ok (.iconst 1, 1) := by decide +kernel
theorem d_L_716 : decode code 716 = .ok (.iadd, 1) := by decide +kernel
theorem d_L_717 : decode code 717 = .ok (.iaload, 1) := by decide +kernel
theorem d_L_718 : decode code 718 = .ok (.invokevirtual 82, 3) := by decide +kernel
theorem d_L_721 : decode code 721 = .ok (.aload_n 2, 1) := by decide +kernel
theorem d_L_722 : decode code 722 = .ok (.aload_n 0, 1) := by decide +kernel
theorem d_L_723 : decode code 723 = .ok (.iload_n 3, 1) := by decide +kernel
theorem d_L_724 : decode code 724 = .ok (.iconst 1, 1) := by decide +kernel
theorem d_L_725 : decode code 725 = .ok (.iadd, 1) := by decide +kernel
theorem d_L_726 : decode code 726 = .ok (.iaload, 1) := by decide +kernel
theorem d_L_727 : decode code 727 = .ok (.invokevirtual 85, 3) := by decide +kernel
theorem d_L_730 : decode code 730 = .ok (.if_icmp .eq 599, 3) := by decide +kernel
theorem d_L_733 : decode code 733 = .ok (.iconst 0, 1) := by decide +kernel
theorem d_L_734 : decode code 734 = .ok (.ireturn, 1) := by decide +kernel
theorem d_L_735 : decode code 735 = .ok (.aload_n 1, 1) := by decide +kernel
theorem d_L_736 : decode code 736 = .ok (.aload_n 0, 1) := by decide +kernel
theorem d_L_737 : decode code 737 = .ok (.iload_n 3, 1) := by decide +kernel
theorem d_L_738 : decode code 738 = .ok (.iconst 1, 1) := by decide +kernel
theorem d_L_739 : decode code 739 = .ok (.iadd, 1) := by decide +kernel
theorem d_L_740 : decode code 740 = .ok (.iaload, 1) := by decide +kernel
theorem d_L_741 : decode code 741 = .ok (.invokevirtual 86, 3) := by decide +kernel
theorem d_L_744 : decode code 744 = .ok (.aload_n 2, 1) := by decide +kernel
theorem d_L_745 : decode code 745 = .ok (.aload_n 0, 1) := by decide +kernel
theorem d_L_746 : decode code 746 = .ok (.iload_n 3, 1) := by decide +kernel
theorem d_L_747 : decode code 747 = .ok (.iconst 1, 1) := by decide +kernel
theorem d_L_748 : decode code 748 = .ok (.iadd, 1) := by decide +kernel
theorem d_L_749 : decode code 749 = .ok (.iaload, 1) := by decide +kernel
theorem d_L_750 : decode code 750 = .ok (.invokevirtual 89, 3) := by decide +kernel
theorem d_L_753 : decode code 753 = .ok (.if_icmp .eq 576, 3) := by decide +kernel
theorem d_L_756 : decode code 756 = .ok (.iconst 0, 1) := by decide +kernel
theorem d_L_757 : decode code 757 = .ok (.ireturn, 1) := by decide +kernel
theorem d_L_758 : decode code 758 = .ok (.aload_n 1, 1) := by decide +kernel
theorem d_L_759 : decode code 759 = .ok (.aload_n 0, 1) := by decide +kernel
theorem d_L_760 : decode code 760 = .ok (.iload_n 3, 1) := by decide +kernel
theorem d_L_761 : decode code 761 = .ok (.iconst 1, 1) := by decide +kernel
theorem d_L_762 : decode code 762 = .ok (.iadd, 1) := by decide +kernel
theorem d_L_763 : decode code 763 = .ok (.iaload, 1) := by decide +kernel
theorem d_L_764 : decode code 764 = .ok (.invokevirtual 90, 3) := by decide +kernel
theorem d_L_767 : decode code 767 = .ok (.aload_n 2, 1) := by decide +kernel
theorem d_L_768 : decode code 768 = .ok (.aload_n 0, 1) := by decide +kernel
theorem d_L_769 : decode code 769 = .ok (.iload_n 3, 1) := by decide +kernel
theorem d_L_770 : decode code 770 = .ok (.iconst 1, 1) := by decide +kernel
theorem d_L_771 : decode code 771 = .ok (.iadd, 1) := by decide +kernel
theorem d_L_772 : decode code 772 = .ok (.iaload, 1) := by decide +kernel
theorem d_L_773 : decode code 773 = .ok (.invokevirtual 93, 3) := by decide +kernel
theorem d_L_776 : decode code 776 = .ok (.if_icmp .eq 553, 3) := by decide +kernel
theorem d_L_779 : decode code 779 = .ok (.iconst 0, 1) := by decide +kernel
theorem d_L_780 : decode code 780 = .ok (.ireturn, 1) := by decide +kernel
theorem d_L_781 : decode code 781 = .ok (.aload_n 1, 1) := by decide +kernel
theorem d_L_782 : decode code 782 = .ok (.invokevirtual 94, 3) := by decide +kernel
theorem d_L_785 : decode code 785 = .ok (.aload_n 2, 1) := by decide +kernel
theorem d_L_786 : decode code 786 = .ok (.invokevirtual 97, 3) := by decide +kernel
theorem d_L_789 : decode code 789 = .ok (.if_icmp .eq 540, 3) := by decide +kernel
theorem d_L_792 : decode code 792 = .ok (.iconst 0, 1) := by decide +kernel
theorem d_L_793 : decode code 793 = .ok (.ireturn, 1) := by decide +kernel
theorem d_L_794 : decode code 794 = .ok (.aload_n 1, 1) := by decide +kernel
theorem d_L_795 : decode code 795 = .ok (.invokevirtual 98, 3) := by decide +kernel
theorem d_L_798 : decode code 798 = .ok (.aload_n 2, 1) := by decide +kernel
theorem d_L_799 : decode code 799 = .ok (.invokevirtual 101, 3) := by decide +kernel
theorem d_L_802 : decode code 802 = .ok (.if_icmp .eq 527, 3) := by decide +kernel
theorem d_L_805 : decode code 805 = .ok (.iconst 0, 1) := by decide +kernel
theorem d_L_806 : decode code 806 = .ok (.ireturn, 1) := by decide +kernel
theorem d_L_807 : decode code 807 = .ok (.aload_n 1, 1) := by decide +kernel
theorem d_L_808 : decode code 808 = .ok (.invokevirtual 102, 3) := by decide +kernel
theorem d_L_811 : decode code 811 = .ok (.aload_n 2, 1) := by decide +kernel
theorem d_L_812 : decode code 812 = .ok (.invokevirtual 105, 3) := by decide +kernel
theorem d_L_815 : decode code 815 = .ok (.if_icmp .eq 514, 3) := by decide +kernel
theorem d_L_818 : decode code 818 = .ok (.iconst 0, 1) := by decide +kernel
theorem d_L_819 : decode code 819 = .ok (.ireturn, 1) := by decide +kernel
theorem d_L_820 : decode code 820 = .ok (.aload_n 1, 1) := by decide +kernel
theorem d_L_821 : decode code 821 = .ok (.aload_n 0, 1) := by decide +kernel
theorem d_L_822 : decode code 822 = .ok (.iload_n 3, 1) := by decide +kernel
theorem d_L_823 : decode code 823 = .ok (.iconst 1, 1) := by decide +kernel
theorem d_L_824 : decode code 824 = .ok (.iadd, 1) := by decide +kernel
theorem d_L_825 : decode code 825 = .ok (.iaload, 1) := by decide +kernel
theorem d_L_826 : decode code 826 = .ok (.invokevirtual 106, 3) := by decide +kernel
theorem d_L_829 : decode code 829 = .ok (.aload_n 2, 1) := by decide +kernel
theorem d_L_830 : decode code 830 = .ok (.aload_n 0, 1) := by decide +kernel
theorem d_L_831 : decode code 831 = .ok (.iload_n 3, 1) := by decide +kernel
theorem d_L_832 : decode code 832 = .ok (.iconst 1, 1) := by decide +kernel
theorem d_L_833 : decode code 833 = .ok (.iadd, 1) := by decide +kernel
theorem d_L_834 : decode code 834 = .ok (.iaload, 1) := by decide +kernel
theorem d_L_835 : decode code 835 = .ok (.invokevirtual 109, 3) := by decide +kernel
theorem d_L_838 : decode code 838 = .ok (.if_icmp .eq 491, 3) := by decide +kernel
theorem d_L_841 : decode code 841 = .ok (.iconst 0, 1) := by decide +kernel
theorem d_L_842 : decode code 842 = .ok (.ireturn, 1) := by decide +kernel
theorem d_L_843 : decode code 843 = .ok (.aload_n 1, 1) := by decide +kernel
theorem d_L_844 : decode code 844 = .ok (.aload_n 0, 1) := by decide +kernel
theorem d_L_845 : decode code 845 = .ok (.iload_n 3, 1) := by decide +kernel
theorem d_L_846 : decode code 846 = .ok (.iconst 1, 1) := by decide +kernel
theorem d_L_847 : decode code 847 = .ok (.iadd, 1) := by decide +kernel
theorem d_L_848 : decode code 848 = .ok (.iaload, 1) := by decide +kernel
theorem d_L_849 : decode code 849 = .ok (.aload_n 0, 1) := by decide +kernel
theorem d_L_850 : decode code 850 = .ok (.iload_n 3, 1) := by decide +kernel
theorem d_L_851 : decode code 851 = .ok (.iconst 2, 1) := by decide +kernel
theorem d_L_852 : decode code 852 = .ok (.iadd, 1) := by decide +kernel
theorem d_L_853 : decode code 853 = .ok (.iaload, 1) := by decide +kernel
theorem d_L_854 : decode code 854 = .ok (.invokevirtual 110, 3) := by decide +kernel
theorem d_L_857 : decode code 857 = .ok (.aload_n 2, 1) := by decide +kernel
theorem d_L_858 : decode code 858 = .ok (.aload_n 0, 1) := by decide +kernel
theorem d_L_859 : decode code 859 = .ok (.iload_n 3, 1) := by decide +kernel
theorem d_L_860 : decode code 860 = .ok (.iconst 1, 1) := by decide +kernel
theorem d_L_861 : decode code 861 = .ok (.iadd, 1) := by decide +kernel
theorem d_L_862 : decode code 862 = .ok (.iaload, 1) := by decide +kernel
theorem d_L_863 : decode code 863 = .ok (.aload_n 0, 1) := by decide +kernel
theorem d_L_864 : decode code 864 = .ok (.iload_n 3, 1) := by decide +kernel
theorem d_L_865 : decode code 865 = .ok (.iconst 2, 1) := by decide +kernel
theorem d_L_866 : decode code 866 = .ok (.iadd, 1) := by decide +kernel
theorem d_L_867 : decode code 867 = .ok (.iaload, 1) := by decide +kernel
theorem d_L_868 : decode code 868 = .ok (.invokevirtual 113, 3) := by decide +kernel
theorem d_L_871 : decode code 871 = .ok (.if_icmp .eq 458, 3) := by decide +kernel
theorem d_L_874 : decode code 874 = .ok (.iconst 0, 1) := by decide +kernel
theorem d_L_875 : decode code 875 = .ok (.ireturn, 1) := by decide +kernel
theorem d_L_876 : decode code 876 = .ok (.aload_n 1, 1) := by decide +kernel
theorem d_L_877 : decode code 877 = .ok (.aload_n 0, 1) := by decide +kernel
theorem d_L_878 : decode code 878 = .ok (.iload_n 3, 1) := by decide +kernel
theorem d_L_879 : decode code 879 = .ok (.iconst 1, 1) := by decide +kernel
theorem d_L_880 : decode code 880 = .ok (.iadd, 1) := by decide +kernel
theorem d_L_881 : decode code 881 = .ok (.iaload, 1) := by decide +kernel
theorem d_L_882 : decode code 882 = .ok (.invokevirtual 114, 3) := by decide +kernel
theorem d_L_885 : decode code 885 = .ok (.aload_n 2, 1) := by decide +kernel
theorem d_L_886 : decode code 886 = .ok (.aload_n 0, 1) := by decide +kernel
theorem d_L_887 : decode code 887 = .ok (.iload_n 3, 1) := by decide +kernel
theorem d_L_888 : decode code 888 = .ok (.iconst 1, 1) := by decide +kernel
theorem d_L_889 : decode code 889 = .ok (.iadd, 1) := by decide +kernel
theorem d_L_890 : decode code 890 = .ok (.iaload, 1) := by decide +kernel
theorem d_L_891 : decode code 891 = .ok (.invokevirtual 117, 3) := by decide +kernel
theorem d_L_894 : decode code 894 = .ok (.if_icmp .eq 435, 3) := by decide +kernel
theorem d_L_897 : decode code 897 = .ok (.iconst 0, 1) := by decide +kernel
theorem d_L_898 : decode code 898 = .ok (.ireturn, 1) := by decide +kernel
theorem d_L_899 : decode code 899 = .ok (.aload_n 1, 1) := by decide +kernel
theorem d_L_900 : decode code 900 = .ok (.aload_n 0, 1) := by decide +kernel
theorem d_L_901 : decode code 901 = .ok (.iload_n 3, 1) := by decide +kernel
theorem d_L_902 : decode code 902 = .ok (.iconst 1, 1) := by decide +kernel
theorem d_L_903 : decode code 903 = .ok (.iadd, 1) := by decide +kernel
theorem d_L_904 : decode code 904 = .ok (.iaload, 1) := by decide +kernel
theorem d_L_905 : decode code 905 = .ok (.invokevirtual 118, 3) := by decide +kernel
theorem d_L_908 : decode code 908 = .ok (.aload_n 2, 1) := by decide +kernel
theorem d_L_909 : decode code 909 = .ok (.aload_n 0, 1) := by decide +kernel
theorem d_L_910 : decode code 910 = .ok (.iload_n 3, 1) := by decide +kernel
theorem d_L_911 : decode code 911 = .ok (.iconst 1, 1) := by decide +kernel
theorem d_L_912 : decode code 912 = .ok (.iadd, 1) := by decide +kernel
theorem d_L_913 : decode code 913 = .ok (.iaload, 1) := by decide +kernel
theorem d_L_914 : decode code 914 = .ok (.invokevirtual 121, 3) := by decide +kernel
theorem d_L_917 : decode code 917 = .ok (.if_icmp .eq 412, 3) := by decide +kernel
theorem d_L_920 : decode code 920 = .ok (.iconst 0, 1) := by decide +kernel
theorem d_L_921 : decode code 921 = .ok (.ireturn, 1) := by decide +kernel
theorem d_L_922 : decode code 922 = .ok (.aload_n 1, 1) := by decide +kernel
theorem d_L_923 : decode code 923 = .ok (.aload_n 0, 1) := by decide +kernel
theorem d_L_924 : decode code 924 = .ok (.iload_n 3, 1) := by decide +kernel
theorem d_L_925 : decode code 925 = .ok (.iconst 1, 1) := by decide +kernel
theorem d_L_926 : decode code 926 = .ok (.iadd, 1) := by decide +kernel
theorem d_L_927 : decode code 927 = .ok (.iaload, 1) := by decide +kernel
theorem d_L_928 : decode code 928 = .ok (.invokevirtual 122, 3) := by decide +kernel
theorem d_L_931 : decode code 931 = .ok (.aload_n 2, 1) := by decide +kernel
theorem d_L_932 : decode code 932 = .ok (.aload_n 0, 1) := by decide +kernel
theorem d_L_933 : decode code 933 = .ok (.iload_n 3, 1) := by decide +kernel
theorem d_L_934 : decode code 934 = .ok (.iconst 1, 1) := by decide +kernel
theorem d_L_935 : decode code 935 = .ok (.iadd, 1) := by decide +kernel
theorem d_L_936 : decode code 936 = .ok (.iaload, 1) := by decide +kernel
theorem d_L_937 : decode code 937 = .ok (.invokevirtual 125, 3) := by decide +kernel
theorem d_L_940 : decode code 940 = .ok (.if_icmp .eq 389, 3) := by decide +kernel
theorem d_L_943 : decode code 943 = .ok (.iconst 0, 1) := by decide +kernel
theorem d_L_944 : decode code 944 = .ok (.ireturn, 1) := by decide +kernel
theorem d_L_945 : decode code 945 = .ok (.aload_n 1, 1) := by decide +kernel
theorem d_L_946 : decode code 946 = .ok (.aload_n 0, 1) := by decide +kernel
theorem d_L_947 : decode code 947 = .ok (.iload_n 3, 1) := by decide +kernel
theorem d_L_948 : decode code 948 = .ok (.iconst 1, 1) := by decide +kernel
theorem d_L_949 : decode code 949 = .ok (.iadd, 1) := by decide +kernel
theorem d_L_950 : decode code 950 = .ok (.iaload, 1) := by decide +kernel
theorem d_L_951 : decode code 951 = .ok (.invokevirtual 126, 3) := by decide +kernel
theorem d_L_954 : decode code 954 = .ok (.aload_n 2, 1) := by decide +kernel
theorem d_L_955 : decode code 955 = .ok (.aload_n 0, 1) := by decide +kernel
theorem d_L_956 : decode code 956 = .ok (.iload_n 3, 1) := by decide +kernel
theorem d_L_957 : decode code 957 = .ok (.iconst 1, 1) := by decide +kernel
theorem d_L_958 : decode code 958 = .ok (.iadd, 1) := by decide +kernel
theorem d_L_959 : decode code 959 = .ok (.iaload, 1) := by decide +kernel
theorem d_L_960 : decode code 960 = .ok (.invokevirtual 129, 3) := by decide +kernel
theorem d_L_963 : decode code 963 = .ok (.if_icmp .eq 366, 3) := by decide +kernel
theorem d_L_966 : decode code 966 = .ok (.iconst 0, 1) := by decide +kernel
theorem d_L_967 : decode code 967 = .ok (.ireturn, 1) := by decide +kernel
theorem d_L_968 : decode code 968 = .ok (.aload_n 1, 1) := by decide +kernel
theorem d_L_969 : decode code 969 = .ok (.aload_n 0, 1) := by decide +kernel
theorem d_L_970 : decode code 970 = .ok (.iload_n 3, 1) := by decide +kernel
theorem d_L_971 : decode code 971 = .ok (.iconst 1, 1) := by decide +kernel
theorem d_L_972 : decode code 972 = .ok (.iadd, 1) := by decide +kernel
theorem d_L_973 : decode code 973 = .ok (.iaload, 1) := by decide +kernel
theorem d_L_974 : decode code 974 = .ok (.invokevirtual 130, 3) := by decide +kernel
theorem d_L_977 : decode code 977 = .ok (.aload_n 2, 1) := by decide +kernel
theorem d_L_978 : decode code 978 = .ok (.aload_n 0, 1) := by decide +kernel
theorem d_L_979 : decode code 979 = .ok (.iload_n 3, 1) := by decide +kernel
theorem d_L_980 : decode code 980 = .ok (.iconst 1, 1) := by decide +kernel
theorem d_L_981 : decode code 981 = .ok (.iadd, 1) := by decide +kernel
theorem d_L_982 : decode code 982 = .ok (.iaload, 1) := by decide +kernel
theorem d_L_983 : decode code 983 = .ok (.invokevirtual 133, 3) := by decide +kernel
theorem d_L_986 : decode code 986 = .ok (.if_icmp .eq 343, 3) := by decide +kernel
theorem d_L_989 : decode code 989 = .ok (.iconst 0, 1) := by decide +kernel
theorem d_L_990 : decode code 990 = .ok (.ireturn, 1) := by decide +kernel
theorem d_L_991 : decode code 991 = .ok (.aload_n 1, 1) := by decide +kernel
theorem d_L_992 : decode code 992 = .ok (.aload_n 0, 1) := by decide +kernel
theorem d_L_993 : decode code 993 = .ok (.iload_n 3, 1) := by decide +kernel
theorem d_L_994 : decode code 994 = .ok (.iconst 1, 1) := by decide +kernel
theorem d_L_995 : decode code 995 = .ok (.iadd, 1) := by decide +kernel
theorem d_L_996 : decode code 996 = .ok (.iaload, 1) := by decide +kernel
theorem d_L_997 : decode code 997 = .ok (.aload_n 0, 1) := by decide +kernel
theorem d_L_998 : decode code 998 = .ok (.iload_n 3, 1) := by decide +kernel
theorem d_L_999 : decode code 999 = .ok (.iconst 2, 1) := by decide +kernel
theorem d_L_1000 : decode code 1000 = .ok (.iadd, 1) := by decide +kernel
theorem d_L_1001 : decode code 1001 = .ok (.iaload, 1) := by decide +kernel
theorem d_L_1002 : decode code 1002 = .ok (.invokevirtual 134, 3) := by decide +kernel
theorem d_L_1005 : decode code 1005 = .ok (.aload_n 2, 1) := by decide +kernel
theorem d_L_1006 : decode code 1006 = .ok (.aload_n 0, 1) := by decide +kernel
theorem d_L_1007 : decode code 1007 = .ok (.iload_n 3, 1) := by decide +kernel
theorem d_L_1008 : decode code 1008 = .ok (.iconst 1, 1) := by decide +kernel
theorem d_L_1009 : decode code 1009 = .ok (.iadd, 1) := by decide +kernel
theorem d_L_1010 : decode code 1010 = .ok (.iaload, 1) := by decide +kernel
theorem d_L_1011 : decode code 1011 = .ok (.aload_n 0, 1) := by decide +kernel
theorem d_L_1012 : decode code 1012 = .ok (.iload_n 3, 1) := by decide +kernel
theorem d_L_1013 : decode code 1013 = .ok (.iconst 2, 1) := by decide +kernel
theorem d_L_1014 : decode code 1014 = .ok (.iadd, 1) := by decide +kernel
theorem d_L_1015 : decode code 1015 = .ok (.iaload, 1) := by decide +kernel
theorem d_L_1016 : decode code 1016 = .ok (.invokevirtual 137, 3) := by decide +kernel
theorem d_L_1019 : decode code 1019 = .ok (.if_icmp .eq 310, 3) := by decide +kernel
theorem d_L_1022 : decode code 1022 = .ok (.iconst 0, 1) := by decide +kernel
theorem d_L_1023 : decode code 1023 = .ok (.ireturn, 1) := by decide +kernel
theorem d_L_1024 : decode code 1024 = .ok (.aload_n 1, 1) := by decide +kernel
theorem d_L_1025 : decode code 1025 = .ok (.aload_n 0, 1) := by decide +kernel
theorem d_L_1026 : decode code 1026 = .ok (.iload_n 3, 1) := by decide +kernel
theorem d_L_1027 : decode code 1027 = .ok (.iconst 1, 1) := by decide +kernel
theorem d_L_1028 : decode code 1028 = .ok (.iadd, 1) := by decide +kernel
theorem d_L_1029 : decode code 1029 = .ok (.iaload, 1) := by decide +kernel
theorem d_L_1030 : decode code 1030 = .ok (.aload_n 0, 1) := by decide +kernel
theorem d_L_1031 : decode code 1031 = .ok (.iload_n 3, 1) := by decide +kernel
theorem d_L_1032 : decode code 1032 = .ok (.iconst 2, 1) := by decide +kernel
theorem d_L_1033 : decode code 1033 = .ok (.iadd, 1) := by decide +kernel
theorem d_L_1034 : decode code 1034 = .ok (.iaload, 1) := by decide +kernel
theorem d_L_1035 : decode code 1035 = .ok (.invokevirtual 138, 3) := by decide +kernel
theorem d_L_1038 : decode code 1038 = .ok (.aload_n 2, 1) := by decide +kernel
theorem d_L_1039 : decode code 1039 = .ok (.aload_n 0, 1) := by decide +kernel
theorem d_L_1040 : decode code 1040 = .ok (.iload_n 3, 1) := by decide +kernel
theorem d_L_1041 : decode code 1041 = .ok (.iconst 1, 1) := by decide +kernel
theorem d_L_1042 : decode code 1042 = .ok (.iadd, 1) := by decide +kernel
theorem d_L_1043 : decode code 1043 = .ok (.iaload, 1) := by decide +kernel
theorem d_L_1044 : decode code 1044 = .ok (.aload_n 0, 1) := by decide +kernel
theorem d_L_1045 : decode code 1045 = .ok (.iload_n 3, 1) := by decide +kernel
theorem d_L_1046 : decode code 1046 = .ok (.iconst 2, 1) := by decide +kernel
theorem d_L_1047 : decode code 1047 = .ok (.iadd, 1) := by decide +kernel
theorem d_L_1048 : decode code 1048 = .ok (.iaload, 1) := by decide +kernel
theorem d_L_1049 : decode code 1049 = .ok (.invokevirtual 141, 3) := by decide +kernel
theorem d_L_1052 : decode code 1052 = .ok (.if_icmp .eq 277, 3) := by decide +kernel
theorem d_L_1055 : decode code 1055 = .ok (.iconst 0, 1) := by decide +kernel
theorem d_L_1056 : decode code 1056 = .ok (.ireturn, 1) := by decide +kernel
theorem d_L_1057 : decode code 1057 = .ok (.aload_n 1, 1) := by decide +kernel
theorem d_L_1058 : decode code 1058 = .ok (.aload_n 0, 1) := by decide +kernel
theorem d_L_1059 : decode code 1059 = .ok (.iload_n 3, 1) := by decide +kernel
theorem d_L_1060 : decode code 1060 = .ok (.iconst 1, 1) := by decide +kernel
theorem d_L_1061 : decode code 1061 = .ok (.iadd, 1) := by decide +kernel
theorem d_L_1062 : decode code 1062 = .ok (.iaload, 1) := by decide +kernel
theorem d_L_1063 : decode code 1063 = .ok (.aload_n 0, 1) := by decide +kernel
theorem d_L_1064 : decode code 1064 = .ok (.iload_n 3, 1) := by decide +kernel
theorem d_L_1065 : decode code 1065 = .ok (.iconst 2, 1) := by decide +kernel
theorem d_L_1066 : decode code 1066 = .ok (.iadd, 1) := by decide +kernel
theorem d_L_1067 : decode code 1067 = .ok (.iaload, 1) := by decide +kernel
theorem d_L_1068 : decode code 1068 = .ok (.invokevirtual 142, 3) := by decide +kernel
theorem d_L_1071 : decode code 1071 = .ok (.aload_n 2, 1) := by decide +kernel
theorem d_L_1072 : decode code 1072 = .ok (.aload_n 0, 1) := by decide +kernel
theorem d_L_1073 : decode code 1073 = .ok (.iload_n 3, 1) := by decide +kernel
theorem d_L_1074 : decode code 1074 = .ok (.iconst 1, 1) := by decide +kernel
theorem d_L_1075 : decode code 1075 = .ok (.iadd, 1) := by decide +kernel
theorem d_L_1076 : decode code 1076 = .ok (.iaload, 1) := by decide +kernel
theorem d_L_1077 : decode code 1077 = .ok (.aload_n 0, 1) := by decide +kernel
theorem d_L_1078 : decode code 1078 = .ok (.iload_n 3, 1) := by decide +kernel
theorem d_L_1079 : decode code 1079 = .ok (.iconst 2, 1) := by decide +kernel
theorem d_L_1080 : decode code 1080 = .ok (.iadd, 1) := by decide +kernel
theorem d_L_1081 : decode code 1081 = .ok (.iaload, 1) := by decide +kernel
theorem d_L_1082 : decode code 1082 = .ok (.invokevirtual 145, 3) := by decide +kernel
theorem d_L_1085 : decode code 1085 = .ok (.if_icmp .eq 244, 3) := by decide +kernel
theorem d_L_1088 : decode code 1088 = .ok (.iconst 0, 1) := by decide +kernel
theorem d_L_1089 : decode code 1089 = .ok (.ireturn, 1) := by decide +kernel
theorem d_L_1090 : decode code 1090 = .ok (.aload_n 1, 1) := by decide +kernel
theorem d_L_1091 : decode code 1091 = .ok (.aload_n 0, 1) := by decide +kernel
theorem d_L_1092 : decode code 1092 = .ok (.iload_n 3, 1) := by decide +kernel
theorem d_L_1093 : decode code 1093 = .ok (.iconst 1, 1) := by decide +kernel
theorem d_L_1094 : decode code 1094 = .ok (.iadd, 1) := by decide +kernel
theorem d_L_1095 : decode code 1095 = .ok (.iaload, 1) := by decide +kernel
theorem d_L_1096 : decode code 1096 = .ok (.invokevirtual 146, 3) := by decide +kernel
theorem d_L_1099 : decode code 1099 = .ok (.aload_n 2, 1) := by decide +kernel
theorem d_L_1100 : decode code 1100 = .ok (.aload_n 0, 1) := by decide +kernel
theorem d_L_1101 : decode code 1101 = .ok (.iload_n 3, 1) := by decide +kernel
theorem d_L_1102 : decode code 1102 = .ok (.iconst 1, 1) := by decide +kernel
theorem d_L_1103 : decode code 1103 = .ok (.iadd, 1) := by decide +kernel
theorem d_L_1104 : decode code 1104 = .ok (.iaload, 1) := by decide +kernel
theorem d_L_1105 : decode code 1105 = .ok (.invokevirtual 149, 3) := by decide +kernel
theorem d_L_1108 : decode code 1108 = .ok (.if_icmp .eq 221, 3) := by decide +kernel
theorem d_L_1111 : decode code 1111 = .ok (.iconst 0, 1) := by decide +kernel
theorem d_L_1112 : decode code 1112 = .ok (.ireturn, 1) := by decide +kernel
theorem d_L_1113 : decode code 1113 = .ok (.aload_n 1, 1) := by decide +kernel
theorem d_L_1114 : decode code 1114 = .ok (.aload_n 0, 1) := by decide +kernel
theorem d_L_1115 : decode code 1115 = .ok (.iload_n 3, 1) := by decide +kernel
theorem d_L_1116 : decode code 1116 = .ok (.iconst 1, 1) := by decide +kernel
theorem d_L_1117 : decode code 1117 = .ok (.iadd, 1) := by decide +kernel
theorem d_L_1118 : decode code 1118 = .ok (.iaload, 1) := by decide +kernel
theorem d_L_1119 : decode code 1119 = .ok (.invokevirtual 150, 3) := by decide +kernel
theorem d_L_1122 : decode code 1122 = .ok (.aload_n 2, 1) := by decide +kernel
theorem d_L_1123 : decode code 1123 = .ok (.aload_n 0, 1) := by decide +kernel
theorem d_L_1124 : decode code 1124 = .ok (.iload_n 3, 1) := by decide +kernel
theorem d_L_1125 : decode code 1125 = .ok (.iconst 1, 1) := by decide +kernel
theorem d_L_1126 : decode code 1126 = .ok (.iadd, 1) := by decide +kernel
theorem d_L_1127 : decode code 1127 = .ok (.iaload, 1) := by decide +kernel
theorem d_L_1128 : decode code 1128 = .ok (.invokevirtual 153, 3) := by decide +kernel
theorem d_L_1131 : decode code 1131 = .ok (.if_icmp .eq 198, 3) := by decide +kernel
theorem d_L_1134 : decode code 1134 = .ok (.iconst 0, 1) := by decide +kernel
theorem d_L_1135 : decode code 1135 = .ok (.ireturn, 1) := by decide +kernel
theorem d_L_1136 : decode code 1136 = .ok (.aload_n 1, 1) := by decide +kernel
theorem d_L_1137 : decode code 1137 = .ok (.aload_n 0, 1) := by decide +kernel
theorem d_L_1138 : decode code 1138 = .ok (.iload_n 3, 1) := by decide +kernel
theorem d_L_1139 : decode code 1139 = .ok (.iconst 1, 1) := by decide +kernel
theorem d_L_1140 : decode code 1140 = .ok (.iadd, 1) := by decide +kernel
theorem d_L_1141 : decode code 1141 = .ok (.iaload, 1) := by decide +kernel
theorem d_L_1142 : decode code 1142 = .ok (.invokevirtual 154, 3) := by decide +kernel
theorem d_L_1145 : decode code 1145 = .ok (.aload_n 2, 1) := by decide +kernel
theorem d_L_1146 : decode code 1146 = .ok (.aload_n 0, 1) := by decide +kernel
theorem d_L_1147 : decode code 1147 = .ok (.iload_n 3, 1) := by decide +kernel
theorem d_L_1148 : decode code 1148 = .ok (.iconst 1, 1) := by decide +kernel
theorem d_L_1149 : decode code 1149 = .ok (.iadd, 1) := by decide +kernel
theorem d_L_1150 : decode code 1150 = .ok (.iaload, 1) := by decide +kernel
theorem d_L_1151 : decode code 1151 = .ok (.invokevirtual 157, 3) := by decide +kernel
theorem d_L_1154 : decode code 1154 = .ok (.if_icmp .eq 175, 3) := by decide +kernel
theorem d_L_1157 : decode code 1157 = .ok (.iconst 0, 1) := by decide +kernel
theorem d_L_1158 : decode code 1158 = .ok (.ireturn, 1) := by decide +kernel
theorem d_L_1159 : decode code 1159 = .ok (.aload_n 1, 1) := by decide +kernel
theorem d_L_1160 : decode code 1160 = .ok (.aload_n 0, 1) := by decide +kernel
theorem d_L_1161 : decode code 1161 = .ok (.iload_n 3, 1) := by decide +kernel
theorem d_L_1162 : decode code 1162 = .ok (.iconst 1, 1) := by decide +kernel
theorem d_L_1163 : decode code 1163 = .ok (.iadd, 1) := by decide +kernel
theorem d_L_1164 : decode code 1164 = .ok (.iaload, 1) := by decide +kernel
theorem d_L_1165 : decode code 1165 = .ok (.invokevirtual 158, 3) := by decide +kernel
theorem d_L_1168 : decode code 1168 = .ok (.aload_n 2, 1) := by decide +kernel
theorem d_L_1169 : decode code 1169 = .ok (.aload_n 0, 1) := by decide +kernel
theorem d_L_1170 : decode code 1170 = .ok (.iload_n 3, 1) := by decide +kernel
theorem d_L_1171 : decode code 1171 = .ok (.iconst 1, 1) := by decide +kernel
theorem d_L_1172 : decode code 1172 = .ok (.iadd, 1) := by decide +kernel
theorem d_L_1173 : decode code 1173 = .ok (.iaload, 1) := by decide +kernel
theorem d_L_1174 : decode code 1174 = .ok (.invokevirtual 161, 3) := by decide +kernel
theorem d_L_1177 : decode code 1177 = .ok (.if_icmp .eq 152, 3) := by decide +kernel
theorem d_L_1180 : decode code 1180 = .ok (.iconst 0, 1) := by decide +kernel
theorem d_L_1181 : decode code 1181 = .ok (.ireturn, 1) := by decide +kernel
theorem d_L_1182 : decode code 1182 = .ok (.aload_n 1, 1) := by decide +kernel
theorem d_L_1183 : decode code 1183 = .ok (.aload_n 0, 1) := by decide +kernel
theorem d_L_1184 : decode code 1184 = .ok (.iload_n 3, 1) := by decide +kernel
theorem d_L_1185 : decode code 1185 = .ok (.iconst 1, 1) := by decide +kernel
theorem d_L_1186 : decode code 1186 = .ok (.iadd, 1) := by decide +kernel
theorem d_L_1187 : decode code 1187 = .ok (.iaload, 1) := by decide +kernel
theorem d_L_1188 : decode code 1188 = .ok (.aload_n 0, 1) := by decide +kernel
theorem d_L_1189 : decode code 1189 = .ok (.iload_n 3, 1) := by decide +kernel
theorem d_L_1190 : decode code 1190 = .ok (.iconst 2, 1) := by decide +kernel
theorem d_L_1191 : decode code 1191 = .ok (.iadd, 1) := by decide +kernel
theorem d_L_1192 : decode code 1192 = .ok (.iaload, 1) := by decide +kernel
theorem d_L_1193 : decode code 1193 = .ok (.invokevirtual 162, 3) := by decide +kernel
theorem d_L_1196 : decode code 1196 = .ok (.aload_n 2, 1) := by decide +kernel
theorem d_L_1197 : decode code 1197 = .ok (.aload_n 0, 1) := by decide +kernel
theorem d_L_1198 : decode code 1198 = .ok (.iload_n 3, 1) := by decide +kernel
theorem d_L_1199 : decode code 1199 = .ok (.iconst 1, 1) := by decide +kernel
theorem d_L_1200 : decode code 1200 = .ok (.iadd, 1) := by decide +kernel
theorem d_L_1201 : decode code 1201 = .ok (.iaload, 1) := by decide +kernel
theorem d_L_1202 : decode code 1202 = .ok (.aload_n 0, 1) := by decide +kernel
theorem d_L_1203 : decode code 1203 = .ok (.iload_n 3, 1) := by decide +kernel
theorem d_L_1204 : decode code 1204 = .ok (.iconst 2, 1) := by decide +kernel
theorem d_L_1205 : decode code 1205 = .ok (.iadd, 1) := by decide +kernel
theorem d_L_1206 : decode code 1206 = .ok (.iaload, 1) := by decide +kernel
theorem d_L_1207 : decode code 1207 = .ok (.invokevirtual 165, 3) := by decide +kernel
theorem d_L_1210 : decode code 1210 = .ok (.if_icmp .eq 119, 3) := by decide +kernel
theorem d_L_1213 : decode code 1213 = .ok (.iconst 0, 1) := by decide +kernel
theorem d_L_1214 : decode code 1214 = .ok (.ireturn, 1) := by decide +kernel
theorem d_L_1215 : decode code 1215 = .ok (.aload_n 1, 1) := by decide +kernel
theorem d_L_1216 : decode code 1216 = .ok (.invokevirtual 166, 3) := by decide +kernel
theorem d_L_1219 : decode code 1219 = .ok (.aload_n 2, 1) := by decide +kernel
theorem d_L_1220 : decode code 1220 = .ok (.invokevirtual 169, 3) := by decide +kernel
theorem d_L_1223 : decode code 1223 = .ok (.if_icmp .eq 106, 3) := by decide +kernel
theorem d_L_1226 : decode code 1226 = .ok (.iconst 0, 1) := by decide +kernel
theorem d_L_1227 : decode code 1227 = .ok (.ireturn, 1) := by decide +kernel
theorem d_L_1228 : decode code 1228 = .ok (.aload_n 1, 1) := by decide +kernel
theorem d_L_1229 : decode code 1229 = .ok (.invokevirtual 170, 3) := by decide +kernel
theorem d_L_1232 : decode code 1232 = .ok (.aload_n 2, 1) := by decide +kernel
theorem d_L_1233 : decode code 1233 = .ok (.invokevirtual 174, 3) := by decide +kernel
theorem d_L_1236 : decode code 1236 = .ok (.lcmp, 1) := by decide +kernel
theorem d_L_1237 : decode code 1237 = .ok (.ifCond .eq 92, 3) := by decide +kernel
theorem d_L_1240 : decode code 1240 = .ok (.iconst 0, 1) := by decide +kernel
theorem d_L_1241 : decode code 1241 = .ok (.ireturn, 1) := by decide +kernel
theorem d_L_1242 : decode code 1242 = .ok (.aload_n 1, 1) := by decide +kernel
theorem d_L_1243 : decode code 1243 = .ok (.invokevirtual 175, 3) := by decide +kernel
theorem d_L_1246 : decode code 1246 = .ok (.aload_n 2, 1) := by decide +kernel
theorem d_L_1247 : decode code 1247 = .ok (.invokevirtual 178, 3) := by decide +kernel
theorem d_L_1250 : decode code 1250 = .ok (.lcmp, 1) := by decide +kernel
theorem d_L_1251 : decode code 1251 = .ok (.ifCond .eq 78, 3) := by decide +kernel
theorem d_L_1254 : decode code 1254 = .ok (.iconst 0, 1) := by decide +kernel
theorem d_L_1255 : decode code 1255 = .ok (.ireturn, 1) := by decide +kernel
theorem d_L_1256 : decode code 1256 = .ok (.aload_n 1, 1) := by decide +kernel
theorem d_L_1257 : decode code 1257 = .ok (.aload_n 0, 1) := by decide +kernel
theorem d_L_1258 : decode code 1258 = .ok (.iload_n 3, 1) := by decide +kernel
theorem d_L_1259 : decode code 1259 = .ok (.iconst 1, 1) := by decide +kernel
theorem d_L_1260 : decode code 1260 = .ok (.iadd, 1) := by decide +kernel
theorem d_L_1261 : decode code 1261 = .ok (.iaload, 1) := by decide +kernel
theorem d_L_1262 : decode code 1262 = .ok (.invokevirtual 179, 3) := by decide +kernel
theorem d_L_1265 : decode code 1265 = .ok (.aload_n 2, 1) := by decide +kernel
theorem d_L_1266 : decode code 1266 = .ok (.aload_n 0, 1) := by decide +kernel
theorem d_L_1267 : decode code 1267 = .ok (.iload_n 3, 1) := by decide +kernel
theorem d_L_1268 : decode code 1268 = .ok (.iconst 1, 1) := by decide +kernel
theorem d_L_1269 : decode code 1269 = .ok (.iadd, 1) := by decide +kernel
theorem d_L_1270 : decode code 1270 = .ok (.iaload, 1) := by decide +kernel
theorem d_L_1271 : decode code 1271 = .ok (.invokevirtual 182, 3) := by decide +kernel
theorem d_L_1274 : decode code 1274 = .ok (.if_icmp .eq 55, 3) := by decide +kernel
theorem d_L_1277 : decode code 1277 = .ok (.iconst 0, 1) := by decide +kernel
theorem d_L_1278 : decode code 1278 = .ok (.ireturn, 1) := by decide +kernel
theorem d_L_1279 : decode code 1279 = .ok (.aload_n 1, 1) := by decide +kernel
theorem d_L_1280 : decode code 1280 = .ok (.invokevirtual 183, 3) := by decide +kernel
theorem d_L_1283 : decode code 1283 = .ok (.aload_n 2, 1) := by decide +kernel
theorem d_L_1284 : decode code 1284 = .ok (.invokevirtual 186, 3) := by decide +kernel
theorem d_L_1287 : decode code 1287 = .ok (.if_icmp .eq 42, 3) := by decide +kernel
theorem d_L_1290 : decode code 1290 = .ok (.iconst 0, 1) := by decide +kernel
theorem d_L_1291 : decode code 1291 = .ok (.ireturn, 1) := by decide +kernel
theorem d_L_1292 : decode code 1292 = .ok (.aload_n 1, 1) := by decide +kernel
theorem d_L_1293 : decode code 1293 = .ok (.aload_n 0, 1) := by decide +kernel
theorem d_L_1294 : decode code 1294 = .ok (.iload_n 3, 1) := by decide +kernel
theorem d_L_1295 : decode code 1295 = .ok (.iconst 1, 1) := by decide +kernel
theorem d_L_1296 : decode code 1296 = .ok (.iadd, 1) := by decide +kernel
theorem d_L_1297 : decode code 1297 = .ok (.iaload, 1) := by decide +kernel
theorem d_L_1298 : decode code 1298 = .ok (.invokevirtual 187, 3) := by decide +kernel
theorem d_L_1301 : decode code 1301 = .ok (.aload_n 2, 1) := by decide +kernel
theorem d_L_1302 : decode code 1302 = .ok (.aload_n 0, 1) := by decide +kernel
theorem d_L_1303 : decode code 1303 = .ok (.iload_n 3, 1) := by decide +kernel
theorem d_L_1304 : decode code 1304 = .ok (.iconst 1, 1) := by decide +kernel
theorem d_L_1305 : decode code 1305 = .ok (.iadd, 1) := by decide +kernel
theorem d_L_1306 : decode code 1306 = .ok (.iaload, 1) := by decide +kernel
theorem d_L_1307 : decode code 1307 = .ok (.invokevirtual 190, 3) := by decide +kernel
theorem d_L_1310 : decode code 1310 = .ok (.if_icmp .eq 19, 3) := by decide +kernel
theorem d_L_1313 : decode code 1313 = .ok (.iconst 0, 1) := by decide +kernel
theorem d_L_1314 : decode code 1314 = .ok (.ireturn, 1) := by decide +kernel
theorem d_L_1315 : decode code 1315 = .ok (.aload_n 1, 1) := by decide +kernel
theorem d_L_1316 : decode code 1316 = .ok (.invokevirtual 191, 3) := by decide +kernel
theorem d_L_1319 : decode code 1319 = .ok (.aload_n 2, 1) := by decide +kernel
theorem d_L_1320 : decode code 1320 = .ok (.invokevirtual 194, 3) := by decide +kernel
theorem d_L_1323 : decode code 1323 = .ok (.lcmp, 1) := by decide +kernel
theorem d_L_1324 : decode code 1324 = .ok (.ifCond .eq 5, 3) := by decide +kernel
theorem d_L_1327 : decode code 1327 = .ok (.iconst 0, 1) := by decide +kernel
theorem d_L_1328 : decode code 1328 = .ok (.ireturn, 1) := by decide +kernel
theorem d_L_1329 : decode code 1329 = .ok (.iinc 3 6, 3) := by decide +kernel
theorem d_L_1332 : decode code 1332 = .ok (.goto (-1314), 3) := by decide +kernel
theorem d_L_1335 : decode code 1335 = .ok (.iconst 1, 1) := by decide +kernel
theorem d_L_1336 : decode code 1336 = .ok (.ireturn, 1) := by decide +kernel

/-! the law, decoded -/
theorem ld_0 : decode code 0 = .ok (.new 7, 3) := by decide +kernel
theorem ld_3 : decode code 3 = .ok (.dup, 1) := by decide +kernel
theorem ld_4 : decode code 4 = .ok (.invokespecial 9, 3) := by decide +kernel
theorem ld_7 : decode code 7 = .ok (.astore_n 1, 1) := by decide +kernel
theorem ld_8 : decode code 8 = .ok (.new 10, 3) := by decide +kernel
theorem ld_11 : decode code 11 = .ok (.dup, 1) := by decide +kernel
theorem ld_12 : decode code 12 = .ok (.invokespecial 12, 3) := by decide +kernel
theorem ld_15 : decode code 15 = .ok (.astore_n 2, 1) := by decide +kernel
theorem ld_16 : decode code 16 = .ok (.iconst 0, 1) := by decide +kernel
theorem ld_17 : decode code 17 = .ok (.istore_n 3, 1) := by decide +kernel
theorem ld_18 : decode code 18 = .ok (.iload_n 3, 1) := by decide +kernel
theorem ld_19 : decode code 19 = .ok (.aload_n 0, 1) := by decide +kernel
theorem ld_20 : decode code 20 = .ok (.arraylength, 1) := by decide +kernel
theorem ld_21 : decode code 21 = .ok (.bipush 6, 2) := by decide +kernel
theorem ld_23 : decode code 23 = .ok (.isub, 1) := by decide +kernel
theorem ld_24 : decode code 24 = .ok (.if_icmp .gt (1399), 3) := by decide +kernel
theorem ld_27 : decode code 27 = .ok (.aload_n 0, 1) := by decide +kernel
theorem ld_28 : decode code 28 = .ok (.iload_n 3, 1) := by decide +kernel
theorem ld_29 : decode code 29 = .ok (.iaload, 1) := by decide +kernel
theorem ld_30 : decode code 30 = .ok (.bipush 63, 2) := by decide +kernel
theorem ld_32 : decode code 32 = .ok (.iand, 1) := by decide +kernel
def lw_offs : Array Int := #[187, 250, 273, 286, 309, 342, 375, 398, 421, 444, 493, 536, 569, 602, 625, 638, 651, 674, 687, 700, 723, 746, 769, 792, 815, 838, 851, 874, 923, 962, 985, 998, 1061, 1094, 1127, 1150, 1193, 1216, 1239, 1272, 1315, 1338, 1361]
theorem ld_33 : decode code 33 = .ok (.tableswitch 1384 0 42 lw_offs, 187) := by decide +kernel
theorem ld_220 : decode code 220 = .ok (.aload_n 1, 1) := by decide +kernel
theorem ld_221 : decode code 221 = .ok (.aload_n 0, 1) := by decide +kernel
theorem ld_222 : decode code 222 = .ok (.iload_n 3, 1) := by decide +kernel
theorem ld_223 : decode code 223 = .ok (.iconst 1, 1) := by decide +kernel
theorem ld_224 : decode code 224 = .ok (.iadd, 1) := by decide +kernel
theorem ld_225 : decode code 225 = .ok (.iaload, 1) := by decide +kernel
theorem ld_226 : decode code 226 = .ok (.aload_n 0, 1) := by decide +kernel
theorem ld_227 : decode code 227 = .ok (.iload_n 3, 1) := by decide +kernel
theorem ld_228 : decode code 228 = .ok (.iconst 2, 1) := by decide +kernel
theorem ld_229 : decode code 229 = .ok (.iadd, 1) := by decide +kernel
theorem ld_230 : decode code 230 = .ok (.iaload, 1) := by decide +kernel
theorem ld_231 : decode code 231 = .ok (.aload_n 0, 1) := by decide +kernel
theorem ld_232 : decode code 232 = .ok (.iload_n 3, 1) := by decide +kernel
theorem ld_233 : decode code 233 = .ok (.iconst 3, 1) := by decide +kernel
theorem ld_234 : decode code 234 = .ok (.iadd, 1) := by decide +kernel
theorem ld_235 : decode code 235 = .ok (.iaload, 1) := by decide +kernel
theorem ld_236 : decode code 236 = .ok (.aload_n 0, 1) := by decide +kernel
theorem ld_237 : decode code 237 = .ok (.iload_n 3, 1) := by decide +kernel
theorem ld_238 : decode code 238 = .ok (.iconst 4, 1) := by decide +kernel
theorem ld_239 : decode code 239 = .ok (.iadd, 1) := by decide +kernel
theorem ld_240 : decode code 240 = .ok (.iaload, 1) := by decide +kernel
theorem ld_241 : decode code 241 = .ok (.aload_n 0, 1) := by decide +kernel
theorem ld_242 : decode code 242 = .ok (.iload_n 3, 1) := by decide +kernel
theorem ld_243 : decode code 243 = .ok (.iconst 5, 1) := by decide +kernel
theorem ld_244 : decode code 244 = .ok (.iadd, 1) := by decide +kernel
theorem ld_245 : decode code 245 = .ok (.iaload, 1) := by decide +kernel
theorem ld_246 : decode code 246 = .ok (.invokevirtual 13, 3) := by decide +kernel
theorem ld_249 : decode code 249 = .ok (.pop, 1) := by decide +kernel
theorem ld_250 : decode code 250 = .ok (.aload_n 2, 1) := by decide +kernel
theorem ld_251 : decode code 251 = .ok (.aload_n 0, 1) := by decide +kernel
theorem ld_252 : decode code 252 = .ok (.iload_n 3, 1) := by decide +kernel
theorem ld_253 : decode code 253 = .ok (.iconst 1, 1) := by decide +kernel
theorem ld_254 : decode code 254 = .ok (.iadd, 1) := by decide +kernel
theorem ld_255 : decode code 255 = .ok (.iaload, 1) := by decide +kernel
theorem ld_256 : decode code 256 = .ok (.aload_n 0, 1) := by decide +kernel
theorem ld_257 : decode code 257 = .ok (.iload_n 3, 1) := by decide +kernel
theorem ld_258 : decode code 258 = .ok (.iconst 2, 1) := by decide +kernel
theorem ld_259 : decode code 259 = .ok (.iadd, 1) := by decide +kernel
theorem ld_260 : decode code 260 = .ok (.iaload, 1) := by decide +kernel
theorem ld_261 : decode code 261 = .ok (.aload_n 0, 1) := by decide +kernel
theorem ld_262 : decode code 262 = .ok (.iload_n 3, 1) := by decide +kernel
theorem ld_263 : decode code 263 = .ok (.iconst 3, 1) := by decide +kernel
theorem ld_264 : decode code 264 = .ok (.iadd, 1) := by decide +kernel
theorem ld_265 : decode code 265 = .ok (.iaload, 1) := by decide +kernel
theorem ld_266 : decode code 266 = .ok (.aload_n 0, 1) := by decide +kernel
theorem ld_267 : decode code 267 = .ok (.iload_n 3, 1) := by decide +kernel
theorem ld_268 : decode code 268 = .ok (.iconst 4, 1) := by decide +kernel
theorem ld_269 : decode code 269 = .ok (.iadd, 1) := by decide +kernel
theorem ld_270 : decode code 270 = .ok (.iaload, 1) := by decide +kernel
theorem ld_271 : decode code 271 = .ok (.aload_n 0, 1) := by decide +kernel
theorem ld_272 : decode code 272 = .ok (.iload_n 3, 1) := by decide +kernel
theorem ld_273 : decode code 273 = .ok (.iconst 5, 1) := by decide +kernel
theorem ld_274 : decode code 274 = .ok (.iadd, 1) := by decide +kernel
theorem ld_275 : decode code 275 = .ok (.iaload, 1) := by decide +kernel
theorem ld_276 : decode code 276 = .ok (.invokevirtual 17, 3) := by decide +kernel
theorem ld_279 : decode code 279 = .ok (.pop, 1) := by decide +kernel
theorem ld_280 : decode code 280 = .ok (.goto (1137), 3) := by decide +kernel
theorem ld_283 : decode code 283 = .ok (.aload_n 1, 1) := by decide +kernel
theorem ld_284 : decode code 284 = .ok (.aload_n 0, 1) := by decide +kernel
theorem ld_285 : decode code 285 = .ok (.iload_n 3, 1) := by decide +kernel
theorem ld_286 : decode code 286 = .ok (.iconst 1, 1) := by decide +kernel
theorem ld_287 : decode code 287 = .ok (.iadd, 1) := by decide +kernel
theorem ld_288 : decode code 288 = .ok (.iaload, 1) := by decide +kernel
theorem ld_289 : decode code 289 = .ok (.invokevirtual 18, 3) := by decide +kernel
theorem ld_292 : decode code 292 = .ok (.pop, 1) := by decide +kernel
theorem ld_293 : decode code 293 = .ok (.aload_n 2, 1) := by decide +kernel
theorem ld_294 : decode code 294 = .ok (.aload_n 0, 1) := by decide +kernel
theorem ld_295 : decode code 295 = .ok (.iload_n 3, 1) := by decide +kernel
theorem ld_296 : decode code 296 = .ok (.iconst 1, 1) := by decide +kernel
theorem ld_297 : decode code 297 = .ok (.iadd, 1) := by decide +kernel
theorem ld_298 : decode code 298 = .ok (.iaload, 1) := by decide +kernel
theorem ld_299 : decode code 299 = .ok (.invokevirtual 22, 3) := by decide +kernel
theorem ld_302 : decode code 302 = .ok (.pop, 1) := by decide +kernel
theorem ld_303 : decode code 303 = .ok (.goto (1114), 3) := by decide +kernel
theorem ld_306 : decode code 306 = .ok (.aload_n 1, 1) := by decide +kernel
theorem ld_307 : decode code 307 = .ok (.invokevirtual 23, 3) := by decide +kernel
theorem ld_310 : decode code 310 = .ok (.pop, 1) := by decide +kernel
theorem ld_311 : decode code 311 = .ok (.aload_n 2, 1) := by decide +kernel
theorem ld_312 : decode code 312 = .ok (.invokevirtual 27, 3) := by decide +kernel
theorem ld_315 : decode code 315 = .ok (.pop, 1) := by decide +kernel
theorem ld_316 : decode code 316 = .ok (.goto (1101), 3) := by decide +kernel
theorem ld_319 : decode code 319 = .ok (.aload_n 1, 1) := by decide +kernel
theorem ld_320 : decode code 320 = .ok (.aload_n 0, 1) := by decide +kernel
theorem ld_321 : decode code 321 = .ok (.iload_n 3, 1) := by decide +kernel
theorem ld_322 : decode code 322 = .ok (.iconst 1, 1) := by decide +kernel
theorem ld_323 : decode code 323 = .ok (.iadd, 1) := by decide +kernel
theorem ld_324 : decode code 324 = .ok (.iaload, 1) := by decide +kernel
theorem ld_325 : decode code 325 = .ok (.invokevirtual 28, 3) := by decide +kernel
theorem ld_328 : decode code 328 = .ok (.pop, 1) := by decide +kernel
theorem ld_329 : decode code 329 = .ok (.aload_n 2, 1) := by decide +kernel
theorem ld_330 : decode code 330 = .ok (.aload_n 0, 1) := by decide +kernel
theorem ld_331 : decode code 331 = .ok (.iload_n 3, 1) := by decide +kernel
theorem ld_332 : decode code 332 = .ok (.iconst 1, 1) := by decide +kernel
theorem ld_333 : decode code 333 = .ok (.iadd, 1) := by decide +kernel
theorem ld_334 : decode code 334 = .ok (.iaload, 1) := by decide +kernel
theorem ld_335 : decode code 335 = .ok (.invokevirtual 31, 3) := by decide +kernel
theorem ld_338 : decode code 338 = .ok (.pop, 1) := by decide +kernel
theorem ld_339 : decode code 339 = .ok (.goto (1078), 3) := by decide +kernel
theorem ld_342 : decode code 342 = .ok (.aload_n 1, 1) := by decide +kernel
theorem ld_343 : decode code 343 = .ok (.aload_n 0, 1) := by decide +kernel
theorem ld_344 : decode code 344 = .ok (.iload_n 3, 1) := by decide +kernel
theorem ld_345 : decode code 345 = .ok (.iconst 1, 1) := by decide +kernel
theorem ld_346 : decode code 346 = .ok (.iadd, 1) := by decide +kernel
theorem ld_347 : decode code 347 = .ok (.iaload, 1) := by decide +kernel
theorem ld_348 : decode code 348 = .ok (.aload_n 0, 1) := by decide +kernel
theorem ld_349 : decode code 349 = .ok (.iload_n 3, 1) := by decide +kernel
theorem ld_350 : decode code 350 = .ok (.iconst 2, 1) := by decide +kernel
theorem ld_351 : decode code 351 = .ok (.iadd, 1) := by decide +kernel
theorem ld_352 : decode code 352 = .ok (.iaload, 1) := by decide +kernel
theorem ld_353 : decode code 353 = .ok (.invokevirtual 32, 3) := by decide +kernel
theorem ld_356 : decode code 356 = .ok (.pop, 1) := by decide +kernel
theorem ld_357 : decode code 357 = .ok (.aload_n 2, 1) := by decide +kernel
theorem ld_358 : decode code 358 = .ok (.aload_n 0, 1) := by decide +kernel
theorem ld_359 : decode code 359 = .ok (.iload_n 3, 1) := by decide +kernel
theorem ld_360 : decode code 360 = .ok (.iconst 1, 1) := by decide +kernel
theorem ld_361 : decode code 361 = .ok (.iadd, 1) := by decide +kernel
theorem ld_362 : decode code 362 = .ok (.iaload, 1) := by decide +kernel
theorem ld_363 : decode code 363 = .ok (.aload_n 0, 1) := by decide +kernel
theorem ld_364 : decode code 364 = .ok (.iload_n 3, 1) := by decide +kernel
theorem ld_365 : decode code 365 = .ok (.iconst 2, 1) := by decide +kernel
theorem ld_366 : decode code 366 = .ok (.iadd, 1) := by decide +kernel
theorem ld_367 : decode code 367 = .ok (.iaload, 1) := by decide +kernel
theorem ld_368 : decode code 368 = .ok (.invokevirtual 36, 3) := by decide +kernel
theorem ld_371 : decode code 371 = .ok (.pop, 1) := by decide +kernel
theorem ld_372 : decode code 372 = .ok (.goto (1045), 3) := by decide +kernel
theorem ld_375 : decode code 375 = .ok (.aload_n 1, 1) := by decide +kernel
theorem ld_376 : decode code 376 = .ok (.aload_n 0, 1) := by decide +kernel
theorem ld_377 : decode code 377 = .ok (.iload_n 3, 1) := by decide +kernel
theorem ld_378 : decode code 378 = .ok (.iconst 1, 1) := by decide +kernel
theorem ld_379 : decode code 379 = .ok (.iadd, 1) := by decide +kernel
theorem ld_380 : decode code 380 = .ok (.iaload, 1) := by decide +kernel
theorem ld_381 : decode code 381 = .ok (.aload_n 0, 1) := by decide +kernel
theorem ld_382 : decode code 382 = .ok (.iload_n 3, 1) := by decide +kernel
theorem ld_383 : decode code 383 = .ok (.iconst 2, 1) := by decide +kernel
theorem ld_384 : decode code 384 = .ok (.iadd, 1) := by decide +kernel
theorem ld_385 : decode code 385 = .ok (.iaload, 1) := by decide +kernel
theorem ld_386 : decode code 386 = .ok (.invokevirtual 37, 3) := by decide +kernel
theorem ld_389 : decode code 389 = .ok (.pop, 1) := by decide +kernel
theorem ld_390 : decode code 390 = .ok (.aload_n 2, 1) := by decide +kernel
theorem ld_391 : decode code 391 = .ok (.aload_n 0, 1) := by decide +kernel
theorem ld_392 : decode code 392 = .ok (.iload_n 3, 1) := by decide +kernel
theorem ld_393 : decode code 393 = .ok (.iconst 1, 1) := by decide +kernel
theorem ld_394 : decode code 394 = .ok (.iadd, 1) := by decide +kernel
theorem ld_395 : decode code 395 = .ok (.iaload, 1) := by decide +kernel
theorem ld_396 : decode code 396 = .ok (.aload_n 0, 1) := by decide +kernel
theorem ld_397 : decode code 397 = .ok (.iload_n 3, 1) := by decide +kernel
theorem ld_398 : decode code 398 = .ok (.iconst 2, 1) := by decide +kernel
theorem ld_399 : decode code 399 = .ok (.iadd, 1) := by decide +kernel
theorem ld_400 : decode code 400 = .ok (.iaload, 1) := by decide +kernel
theorem ld_401 : decode code 401 = .ok (.invokevirtual 40, 3) := by decide +kernel
theorem ld_404 : decode code 404 = .ok (.pop, 1) := by decide +kernel
theorem ld_405 : decode code 405 = .ok (.goto (1012), 3) := by decide +kernel
theorem ld_408 : decode code 408 = .ok (.aload_n 1, 1) := by decide +kernel
theorem ld_409 : decode code 409 = .ok (.aload_n 0, 1) := by decide +kernel
theorem ld_410 : decode code 410 = .ok (.iload_n 3, 1) := by decide +kernel
theorem ld_411 : decode code 411 = .ok (.iconst 1, 1) := by decide +kernel
theorem ld_412 : decode code 412 = .ok (.iadd, 1) := by decide +kernel
theorem ld_413 : decode code 413 = .ok (.iaload, 1) := by decide +kernel
theorem ld_414 : decode code 414 = .ok (.invokevirtual 41, 3) := by decide +kernel
theorem ld_417 : decode code 417 = .ok (.pop, 1) := by decide +kernel
theorem ld_418 : decode code 418 = .ok (.aload_n 2, 1) := by decide +kernel
theorem ld_419 : decode code 419 = .ok (.aload_n 0, 1) := by decide +kernel
theorem ld_420 : decode code 420 = .ok (.iload_n 3, 1) := by decide +kernel
theorem ld_421 : decode code 421 = .ok (.iconst 1, 1) := by decide +kernel
theorem ld_422 : decode code 422 = .ok (.iadd, 1) := by decide +kernel
theorem ld_423 : decode code 423 = .ok (.iaload, 1) := by decide +kernel
theorem ld_424 : decode code 424 = .ok (.invokevirtual 44, 3) := by decide +kernel
theorem ld_427 : decode code 427 = .ok (.pop, 1) := by decide +kernel
theorem ld_428 : decode code 428 = .ok (.goto (989), 3) := by decide +kernel
theorem ld_431 : decode code 431 = .ok (.aload_n 1, 1) := by decide +kernel
theorem ld_432 : decode code 432 = .ok (.aload_n 0, 1) := by decide +kernel
theorem ld_433 : decode code 433 = .ok (.iload_n 3, 1) := by decide +kernel
theorem ld_434 : decode code 434 = .ok (.iconst 1, 1) := by decide +kernel
theorem ld_435 : decode code 435 = .ok (.iadd, 1) := by decide +kernel
theorem ld_436 : decode code 436 = .ok (.iaload, 1) := by decide +kernel
theorem ld_437 : decode code 437 = .ok (.invokevirtual 45, 3) := by decide +kernel
theorem ld_440 : decode code 440 = .ok (.pop, 1) := by decide +kernel
theorem ld_441 : decode code 441 = .ok (.aload_n 2, 1) := by decide +kernel
theorem ld_442 : decode code 442 = .ok (.aload_n 0, 1) := by decide +kernel
theorem ld_443 : decode code 443 = .ok (.iload_n 3, 1) := by decide +kernel
theorem ld_444 : decode code 444 = .ok (.iconst 1, 1) := by decide +kernel
theorem ld_445 : decode code 445 = .ok (.iadd, 1) := by decide +kernel
theorem ld_446 : decode code 446 = .ok (.iaload, 1) := by decide +kernel
theorem ld_447 : decode code 447 = .ok (.invokevirtual 48, 3) := by decide +kernel
theorem ld_450 : decode code 450 = .ok (.pop, 1) := by decide +kernel
theorem ld_451 : decode code 451 = .ok (.goto (966), 3) := by decide +kernel
theorem ld_454 : decode code 454 = .ok (.aload_n 1, 1) := by decide +kernel
theorem ld_455 : decode code 455 = .ok (.aload_n 0, 1) := by decide +kernel
theorem ld_456 : decode code 456 = .ok (.iload_n 3, 1) := by decide +kernel
theorem ld_457 : decode code 457 = .ok (.iconst 1, 1) := by decide +kernel
theorem ld_458 : decode code 458 = .ok (.iadd, 1) := by decide +kernel
theorem ld_459 : decode code 459 = .ok (.iaload, 1) := by decide +kernel
theorem ld_460 : decode code 460 = .ok (.invokevirtual 49, 3) := by decide +kernel
theorem ld_463 : decode code 463 = .ok (.pop, 1) := by decide +kernel
theorem ld_464 : decode code 464 = .ok (.aload_n 2, 1) := by decide +kernel
theorem ld_465 : decode code 465 = .ok (.aload_n 0, 1) := by decide +kernel
theorem ld_466 : decode code 466 = .ok (.iload_n 3, 1) := by decide +kernel
theorem ld_467 : decode code 467 = .ok (.iconst 1, 1) := by decide +kernel
theorem ld_468 : decode code 468 = .ok (.iadd, 1) := by decide +kernel
theorem ld_469 : decode code 469 = .ok (.iaload, 1) := by decide +kernel
theorem ld_470 : decode code 470 = .ok (.invokevirtual 52, 3) := by decide +kernel
theorem ld_473 : decode code 473 = .ok (.pop, 1) := by decide +kernel
theorem ld_474 : decode code 474 = .ok (.goto (943), 3) := by decide +kernel
theorem ld_477 : decode code 477 = .ok (.aload_n 1, 1) := by decide +kernel
theorem ld_478 : decode code 478 = .ok (.aload_n 0, 1) := by decide +kernel
theorem ld_479 : decode code 479 = .ok (.iload_n 3, 1) := by decide +kernel
theorem ld_480 : decode code 480 = .ok (.iconst 1, 1) := by decide +kernel
theorem ld_481 : decode code 481 = .ok (.iadd, 1) := by decide +kernel
theorem ld_482 : decode code 482 = .ok (.iaload, 1) := by decide +kernel
theorem ld_483 : decode code 483 = .ok (.aload_n 0, 1) := by decide +kernel
theorem ld_484 : decode code 484 = .ok (.iload_n 3, 1) := by decide +kernel
theorem ld_485 : decode code 485 = .ok (.iconst 2, 1) := by decide +kernel
theorem ld_486 : decode code 486 = .ok (.iadd, 1) := by decide +kernel
theorem ld_487 : decode code 487 = .ok (.iaload, 1) := by decide +kernel
theorem ld_488 : decode code 488 = .ok (.ifCond .eq (7), 3) := by decide +kernel
theorem ld_491 : decode code 491 = .ok (.iconst 1, 1) := by decide +kernel
theorem ld_492 : decode code 492 = .ok (.goto (4), 3) := by decide +kernel
theorem ld_495 : decode code 495 = .ok (.iconst 0, 1) := by decide +kernel
theorem ld_496 : decode code 496 = .ok (.invokevirtual 53, 3) := by decide +kernel
theorem ld_499 : decode code 499 = .ok (.pop, 1) := by decide +kernel
theorem ld_500 : decode code 500 = .ok (.aload_n 2, 1) := by decide +kernel
theorem ld_501 : decode code 501 = .ok (.aload_n 0, 1) := by decide +kernel
theorem ld_502 : decode code 502 = .ok (.iload_n 3, 1) := by decide +kernel
theorem ld_503 : decode code 503 = .ok (.iconst 1, 1) := by decide +kernel
theorem ld_504 : decode code 504 = .ok (.iadd, 1) := by decide +kernel
theorem ld_505 : decode code 505 = .ok (.iaload, 1) := by decide +kernel
theorem ld_506 : decode code 506 = .ok (.aload_n 0, 1) := by decide +kernel
theorem ld_507 : decode code 507 = .ok (.iload_n 3, 1) := by decide +kernel
theorem ld_508 : decode code 508 = .ok (.iconst 2, 1) := by decide +kernel
theorem ld_509 : decode code 509 = .ok (.iadd, 1) := by decide +kernel
theorem ld_510 : decode code 510 = .ok (.iaload, 1) := by decide +kernel
theorem ld_511 : decode code 511 = .ok (.ifCond .eq (7), 3) := by decide +kernel
theorem ld_514 : decode code 514 = .ok (.iconst 1, 1) := by decide +kernel
theorem ld_515 : decode code 515 = .ok (.goto (4), 3) := by decide +kernel
theorem ld_518 : decode code 518 = .ok (.iconst 0, 1) := by decide +kernel
theorem ld_519 : decode code 519 = .ok (.invokevirtual 57, 3) := by decide +kernel
theorem ld_522 : decode code 522 = .ok (.pop, 1) := by decide +kernel
theorem ld_523 : decode code 523 = .ok (.goto (894), 3) := by decide +kernel
theorem ld_526 : decode code 526 = .ok (.aload_n 1, 1) := by decide +kernel
theorem ld_527 : decode code 527 = .ok (.aload_n 0, 1) := by decide +kernel
theorem ld_528 : decode code 528 = .ok (.iload_n 3, 1) := by decide +kernel
theorem ld_529 : decode code 529 = .ok (.iconst 1, 1) := by decide +kernel
theorem ld_530 : decode code 530 = .ok (.iadd, 1) := by decide +kernel
theorem ld_531 : decode code 531 = .ok (.iaload, 1) := by decide +kernel
theorem ld_532 : decode code 532 = .ok (.aload_n 0, 1) := by decide +kernel
theorem ld_533 : decode code 533 = .ok (.iload_n 3, 1) := by decide +kernel
theorem ld_534 : decode code 534 = .ok (.iconst 2, 1) := by decide +kernel
theorem ld_535 : decode code 535 = .ok (.iadd, 1) := by decide +kernel
theorem ld_536 : decode code 536 = .ok (.iaload, 1) := by decide +kernel
theorem ld_537 : decode code 537 = .ok (.aload_n 0, 1) := by decide +kernel
theorem ld_538 : decode code 538 = .ok (.iload_n 3, 1) := by decide +kernel
theorem ld_539 : decode code 539 = .ok (.iconst 3, 1) := by decide +kernel
theorem ld_540 : decode code 540 = .ok (.iadd, 1) := by decide +kernel
theorem ld_541 : decode code 541 = .ok (.iaload, 1) := by decide +kernel
theorem ld_542 : decode code 542 = .ok (.invokevirtual 58, 3) := by decide +kernel
theorem ld_545 : decode code 545 = .ok (.pop, 1) := by decide +kernel
theorem ld_546 : decode code 546 = .ok (.aload_n 2, 1) := by decide +kernel
theorem ld_547 : decode code 547 = .ok (.aload_n 0, 1) := by decide +kernel
theorem ld_548 : decode code 548 = .ok (.iload_n 3, 1) := by decide +kernel
theorem ld_549 : decode code 549 = .ok (.iconst 1, 1) := by decide +kernel
theorem ld_550 : decode code 550 = .ok (.iadd, 1) := by decide +kernel
theorem ld_551 : decode code 551 = .ok (.iaload, 1) := by decide +kernel
theorem ld_552 : decode code 552 = .ok (.aload_n 0, 1) := by decide +kernel
theorem ld_553 : decode code 553 = .ok (.iload_n 3, 1) := by decide +kernel
theorem ld_554 : decode code 554 = .ok (.iconst 2, 1) := by decide +kernel
theorem ld_555 : decode code 555 = .ok (.iadd, 1) := by decide +kernel
theorem ld_556 : decode code 556 = .ok (.iaload, 1) := by decide +kernel
theorem ld_557 : decode code 557 = .ok (.aload_n 0, 1) := by decide +kernel
theorem ld_558 : decode code 558 = .ok (.iload_n 3, 1) := by decide +kernel
theorem ld_559 : decode code 559 = .ok (.iconst 3, 1) := by decide +kernel
theorem ld_560 : decode code 560 = .ok (.iadd, 1) := by decide +kernel
theorem ld_561 : decode code 561 = .ok (.iaload, 1) := by decide +kernel
theorem ld_562 : decode code 562 = .ok (.invokevirtual 62, 3) := by decide +kernel
theorem ld_565 : decode code 565 = .ok (.pop, 1) := by decide +kernel
theorem ld_566 : decode code 566 = .ok (.goto (851), 3) := by decide +kernel
theorem ld_569 : decode code 569 = .ok (.aload_n 1, 1) := by decide +kernel
theorem ld_570 : decode code 570 = .ok (.aload_n 0, 1) := by decide +kernel
theorem ld_571 : decode code 571 = .ok (.iload_n 3, 1) := by decide +kernel
theorem ld_572 : decode code 572 = .ok (.iconst 1, 1) := by decide +kernel
theorem ld_573 : decode code 573 = .ok (.iadd, 1) := by decide +kernel
theorem ld_574 : decode code 574 = .ok (.iaload, 1) := by decide +kernel
theorem ld_575 : decode code 575 = .ok (.aload_n 0, 1) := by decide +kernel
theorem ld_576 : decode code 576 = .ok (.iload_n 3, 1) := by decide +kernel
theorem ld_577 : decode code 577 = .ok (.iconst 2, 1) := by decide +kernel
theorem ld_578 : decode code 578 = .ok (.iadd, 1) := by decide +kernel
theorem ld_579 : decode code 579 = .ok (.iaload, 1) := by decide +kernel
theorem ld_580 : decode code 580 = .ok (.invokevirtual 63, 3) := by decide +kernel
theorem ld_583 : decode code 583 = .ok (.pop, 1) := by decide +kernel
theorem ld_584 : decode code 584 = .ok (.aload_n 2, 1) := by decide +kernel
theorem ld_585 : decode code 585 = .ok (.aload_n 0, 1) := by decide +kernel
theorem ld_586 : decode code 586 = .ok (.iload_n 3, 1) := by decide +kernel
theorem ld_587 : decode code 587 = .ok (.iconst 1, 1) := by decide +kernel
theorem ld_588 : decode code 588 = .ok (.iadd, 1) := by decide +kernel
theorem ld_589 : decode code 589 = .ok (.iaload, 1) := by decide +kernel
theorem ld_590 : decode code 590 = .ok (.aload_n 0, 1) := by decide +kernel
theorem ld_591 : decode code 591 = .ok (.iload_n 3, 1) := by decide +kernel
theorem ld_592 : decode code 592 = .ok (.iconst 2, 1) := by decide +kernel
theorem ld_593 : decode code 593 = .ok (.iadd, 1) := by decide +kernel
theorem ld_594 : decode code 594 = .ok (.iaload, 1) := by decide +kernel
theorem ld_595 : decode code 595 = .ok (.invokevirtual 67, 3) := by decide +kernel
theorem ld_598 : decode code 598 = .ok (.pop, 1) := by decide +kernel
theorem ld_599 : decode code 599 = .ok (.goto (818), 3) := by decide +kernel
theorem ld_602 : decode code 602 = .ok (.aload_n 1, 1) := by decide +kernel
theorem ld_603 : decode code 603 = .ok (.aload_n 0, 1) := by decide +kernel
theorem ld_604 : decode code 604 = .ok (.iload_n 3, 1) := by decide +kernel
theorem ld_605 : decode code 605 = .ok (.iconst 1, 1) := by decide +kernel
theorem ld_606 : decode code 606 = .ok (.iadd, 1) := by decide +kernel
theorem ld_607 : decode code 607 = .ok (.iaload, 1) := by decide +kernel
theorem ld_608 : decode code 608 = .ok (.aload_n 0, 1) := by decide +kernel
theorem ld_609 : decode code 609 = .ok (.iload_n 3, 1) := by decide +kernel
theorem ld_610 : decode code 610 = .ok (.iconst 2, 1) := by decide +kernel
theorem ld_611 : decode code 611 = .ok (.iadd, 1) := by decide +kernel
theorem ld_612 : decode code 612 = .ok (.iaload, 1) := by decide +kernel
theorem ld_613 : decode code 613 = .ok (.invokevirtual 68, 3) := by decide +kernel
theorem ld_616 : decode code 616 = .ok (.pop, 1) := by decide +kernel
theorem ld_617 : decode code 617 = .ok (.aload_n 2, 1) := by decide +kernel
theorem ld_618 : decode code 618 = .ok (.aload_n 0, 1) := by decide +kernel
theorem ld_619 : decode code 619 = .ok (.iload_n 3, 1) := by decide +kernel
theorem ld_620 : decode code 620 = .ok (.iconst 1, 1) := by decide +kernel
theorem ld_621 : decode code 621 = .ok (.iadd, 1) := by decide +kernel
theorem ld_622 : decode code 622 = .ok (.iaload, 1) := by decide +kernel
theorem ld_623 : decode code 623 = .ok (.aload_n 0, 1) := by decide +kernel
theorem ld_624 : decode code 624 = .ok (.iload_n 3, 1) := by decide +kernel
theorem ld_625 : decode code 625 = .ok (.iconst 2, 1) := by decide +kernel
theorem ld_626 : decode code 626 = .ok (.iadd, 1) := by decide +kernel
theorem ld_627 : decode code 627 = .ok (.iaload, 1) := by decide +kernel
theorem ld_628 : decode code 628 = .ok (.invokevirtual 71, 3) := by decide +kernel
theorem ld_631 : decode code 631 = .ok (.pop, 1) := by decide +kernel
theorem ld_632 : decode code 632 = .ok (.goto (785), 3) := by decide +kernel
theorem ld_635 : decode code 635 = .ok (.aload_n 1, 1) := by decide +kernel
theorem ld_636 : decode code 636 = .ok (.aload_n 0, 1) := by decide +kernel
theorem ld_637 : decode code 637 = .ok (.iload_n 3, 1) := by decide +kernel
theorem ld_638 : decode code 638 = .ok (.iconst 1, 1) := by decide +kernel
theorem ld_639 : decode code 639 = .ok (.iadd, 1) := by decide +kernel
theorem ld_640 : decode code 640 = .ok (.iaload, 1) := by decide +kernel
theorem ld_641 : decode code 641 = .ok (.invokevirtual 72, 3) := by decide +kernel
theorem ld_644 : decode code 644 = .ok (.pop, 1) := by decide +kernel
theorem ld_645 : decode code 645 = .ok (.aload_n 2, 1) := by decide +kernel
theorem ld_646 : decode code 646 = .ok (.aload_n 0, 1) := by decide +kernel
theorem ld_647 : decode code 647 = .ok (.iload_n 3, 1) := by decide +kernel
theorem ld_648 : decode code 648 = .ok (.iconst 1, 1) := by decide +kernel
theorem ld_649 : decode code 649 = .ok (.iadd, 1) := by decide +kernel
theorem ld_650 : decode code 650 = .ok (.iaload, 1) := by decide +kernel
theorem ld_651 : decode code 651 = .ok (.invokevirtual 75, 3) := by decide +kernel
theorem ld_654 : decode code 654 = .ok (.pop, 1) := by decide +kernel
theorem ld_655 : decode code 655 = .ok (.goto (762), 3) := by decide +kernel
theorem ld_658 : decode code 658 = .ok (.aload_n 1, 1) := by decide +kernel
theorem ld_659 : decode code 659 = .ok (.invokevirtual 76, 3) := by decide +kernel
theorem ld_662 : decode code 662 = .ok (.pop, 1) := by decide +kernel
theorem ld_663 : decode code 663 = .ok (.aload_n 2, 1) := by decide +kernel
theorem ld_664 : decode code 664 = .ok (.invokevirtual 80, 3) := by decide +kernel
theorem ld_667 : decode code 667 = .ok (.pop, 1) := by decide +kernel
theorem ld_668 : decode code 668 = .ok (.goto (749), 3) := by decide +kernel
theorem ld_671 : decode code 671 = .ok (.aload_n 1, 1) := by decide +kernel
theorem ld_672 : decode code 672 = .ok (.invokevirtual 81, 3) := by decide +kernel
theorem ld_675 : decode code 675 = .ok (.pop, 1) := by decide +kernel
theorem ld_676 : decode code 676 = .ok (.aload_n 2, 1) := by decide +kernel
theorem ld_677 : decode code 677 = .ok (.invokevirtual 84, 3) := by decide +kernel
theorem ld_680 : decode code 680 = .ok (.pop, 1) := by decide +kernel
theorem ld_681 : decode code 681 = .ok (.goto (736), 3) := by decide +kernel
theorem ld_684 : decode code 684 = .ok (.aload_n 1, 1) := by decide +kernel
theorem ld_685 : decode code 685 = .ok (.aload_n 0, 1) := by decide +kernel
theorem ld_686 : decode code 686 = .ok (.iload_n 3, 1) := by decide +kernel
theorem ld_687 : decode code 687 = .ok (.iconst 1, 1) := by decide +kernel
theorem ld_688 : decode code 688 = .ok (.iadd, 1) := by decide +kernel
theorem ld_689 : decode code 689 = .ok (.iaload, 1) := by decide +kernel
theorem ld_690 : decode code 690 = .ok (.invokevirtual 85, 3) := by decide +kernel
theorem ld_693 : decode code 693 = .ok (.pop, 1) := by decide +kernel
theorem ld_694 : decode code 694 = .ok (.aload_n 2, 1) := by decide +kernel
theorem ld_695 : decode code 695 = .ok (.aload_n 0, 1) := by decide +kernel
theorem ld_696 : decode code 696 = .ok (.iload_n 3, 1) := by decide +kernel
theorem ld_697 : decode code 697 = .ok (.iconst 1, 1) := by decide +kernel
theorem ld_698 : decode code 698 = .ok (.iadd, 1) := by decide +kernel
theorem ld_699 : decode code 699 = .ok (.iaload, 1) := by decide +kernel
theorem ld_700 : decode code 700 = .ok (.invokevirtual 88, 3) := by decide +kernel
theorem ld_703 : decode code 703 = .ok (.pop, 1) := by decide +kernel
theorem ld_704 : decode code 704 = .ok (.goto (713), 3) := by decide +kernel
theorem ld_707 : decode code 707 = .ok (.aload_n 1, 1) := by decide +kernel
theorem ld_708 : decode code 708 = .ok (.invokevirtual 89, 3) := by decide +kernel
theorem ld_711 : decode code 711 = .ok (.pop, 1) := by decide +kernel
theorem ld_712 : decode code 712 = .ok (.aload_n 2, 1) := by decide +kernel
theorem ld_713 : decode code 713 = .ok (.invokevirtual 92, 3) := by decide +kernel
theorem ld_716 : decode code 716 = .ok (.pop, 1) := by decide +kernel
theorem ld_717 : decode code 717 = .ok (.goto (700), 3) := by decide +kernel
theorem ld_720 : decode code 720 = .ok (.aload_n 1, 1) := by decide +kernel
theorem ld_721 : decode code 721 = .ok (.invokevirtual 93, 3) := by decide +kernel
theorem ld_724 : decode code 724 = .ok (.pop, 1) := by decide +kernel
theorem ld_725 : decode code 725 = .ok (.aload_n 2, 1) := by decide +kernel
theorem ld_726 : decode code 726 = .ok (.invokevirtual 96, 3) := by decide +kernel
theorem ld_729 : decode code 729 = .ok (.pop, 1) := by decide +kernel
theorem ld_730 : decode code 730 = .ok (.goto (687), 3) := by decide +kernel
theorem ld_733 : decode code 733 = .ok (.aload_n 1, 1) := by decide +kernel
theorem ld_734 : decode code 734 = .ok (.aload_n 0, 1) := by decide +kernel
theorem ld_735 : decode code 735 = .ok (.iload_n 3, 1) := by decide +kernel
theorem ld_736 : decode code 736 = .ok (.iconst 1, 1) := by decide +kernel
theorem ld_737 : decode code 737 = .ok (.iadd, 1) := by decide +kernel
theorem ld_738 : decode code 738 = .ok (.iaload, 1) := by decide +kernel
theorem ld_739 : decode code 739 = .ok (.invokevirtual 97, 3) := by decide +kernel
theorem ld_742 : decode code 742 = .ok (.pop, 1) := by decide +kernel
theorem ld_743 : decode code 743 = .ok (.aload_n 2, 1) := by decide +kernel
theorem ld_744 : decode code 744 = .ok (.aload_n 0, 1) := by decide +kernel
theorem ld_745 : decode code 745 = .ok (.iload_n 3, 1) := by decide +kernel
theorem ld_746 : decode code 746 = .ok (.iconst 1, 1) := by decide +kernel
theorem ld_747 : decode code 747 = .ok (.iadd, 1) := by decide +kernel
theorem ld_748 : decode code 748 = .ok (.iaload, 1) := by decide +kernel
theorem ld_749 : decode code 749 = .ok (.invokevirtual 100, 3) := by decide +kernel
theorem ld_752 : decode code 752 = .ok (.pop, 1) := by decide +kernel
theorem ld_753 : decode code 753 = .ok (.goto (664), 3) := by decide +kernel
theorem ld_756 : decode code 756 = .ok (.aload_n 1, 1) := by decide +kernel
theorem ld_757 : decode code 757 = .ok (.aload_n 0, 1) := by decide +kernel
theorem ld_758 : decode code 758 = .ok (.iload_n 3, 1) := by decide +kernel
theorem ld_759 : decode code 759 = .ok (.iconst 1, 1) := by decide +kernel
theorem ld_760 : decode code 760 = .ok (.iadd, 1) := by decide +kernel
theorem ld_761 : decode code 761 = .ok (.iaload, 1) := by decide +kernel
theorem ld_762 : decode code 762 = .ok (.invokevirtual 101, 3) := by decide +kernel
theorem ld_765 : decode code 765 = .ok (.pop, 1) := by decide +kernel
theorem ld_766 : decode code 766 = .ok (.aload_n 2, 1) := by decide +kernel
theorem ld_767 : decode code 767 = .ok (.aload_n 0, 1) := by decide +kernel
theorem ld_768 : decode code 768 = .ok (.iload_n 3, 1) := by decide +kernel
theorem ld_769 : decode code 769 = .ok (.iconst 1, 1) := by decide +kernel
theorem ld_770 : decode code 770 = .ok (.iadd, 1) := by decide +kernel
theorem ld_771 : decode code 771 = .ok (.iaload, 1) := by decide +kernel
theorem ld_772 : decode code 772 = .ok (.invokevirtual 104, 3) := by decide +kernel
theorem ld_775 : decode code 775 = .ok (.pop, 1) := by decide +kernel
theorem ld_776 : decode code 776 = .ok (.goto (641), 3) := by decide +kernel
theorem ld_779 : decode code 779 = .ok (.aload_n 1, 1) := by decide +kernel
theorem ld_780 : decode code 780 = .ok (.aload_n 0, 1) := by decide +kernel
theorem ld_781 : decode code 781 = .ok (.iload_n 3, 1) := by decide +kernel
theorem ld_782 : decode code 782 = .ok (.iconst 1, 1) := by decide +kernel
theorem ld_783 : decode code 783 = .ok (.iadd, 1) := by decide +kernel
theorem ld_784 : decode code 784 = .ok (.iaload, 1) := by decide +kernel
theorem ld_785 : decode code 785 = .ok (.invokevirtual 105, 3) := by decide +kernel
theorem ld_788 : decode code 788 = .ok (.pop, 1) := by decide +kernel
theorem ld_789 : decode code 789 = .ok (.aload_n 2, 1) := by decide +kernel
theorem ld_790 : decode code 790 = .ok (.aload_n 0, 1) := by decide +kernel
theorem ld_791 : decode code 791 = .ok (.iload_n 3, 1) := by decide +kernel
theorem ld_792 : decode code 792 = .ok (.iconst 1, 1) := by decide +kernel
theorem ld_793 : decode code 793 = .ok (.iadd, 1) := by decide +kernel
theorem ld_794 : decode code 794 = .ok (.iaload, 1) := by decide +kernel
theorem ld_795 : decode code 795 = .ok (.invokevirtual 108, 3) := by decide +kernel
theorem ld_798 : decode code 798 = .ok (.pop, 1) := by decide +kernel
theorem ld_799 : decode code 799 = .ok (.goto (618), 3) := by decide +kernel
theorem ld_802 : decode code 802 = .ok (.aload_n 1, 1) := by decide +kernel
theorem ld_803 : decode code 803 = .ok (.aload_n 0, 1) := by decide +kernel
theorem ld_804 : decode code 804 = .ok (.iload_n 3, 1) := by decide +kernel

theorem dL_law_260 : decode cL_law 260 = .ok (.aload_n 1, 1) := by decide +kernel
theorem dL_law_261 : decode cL_law 261 = .ok (.aload_n 0, 1) := by decide +kernel
theorem dL_law_262 : decode cL_law 262 = .ok (.iload_n 3, 1) := by decide +kernel
theorem dL_law_263 : decode cL_law 263 = .ok (.iconst 1, 1) := by decide +kernel
theorem dL_law_264 : decode cL_law 264 = .ok (.iadd, 1) := by decide +kernel
theorem dL_law_265 : decode cL_law 265 = .ok (.iaload, 1) := by decide +kernel
theorem dL_law_266 : decode cL_law 266 = .ok (.invokevirtual 13, 3) := by decide +kernel
theorem dL_law_269 : decode cL_law 269 = .ok (.aload_n 2, 1) := by decide +kernel
theorem dL_law_270 : decode cL_law 270 = .ok (.aload_n 0, 1) := by decide +kernel
theorem dL_law_271 : decode cL_law 271 = .ok (.iload_n 3, 1) := by decide +kernel
theorem dL_law_272 : decode cL_law 272 = .ok (.iconst 1, 1) := by decide +kernel
theorem dL_law_273 : decode cL_law 273 = .ok (.iadd, 1) := by decide +kernel
theorem dL_law_274 : decode cL_law 274 = .ok (.iaload, 1) := by decide +kernel
theorem dL_law_275 : decode cL_law 275 = .ok (.invokevirtual 17, 3) := by decide +kernel
theorem dL_law_278 : decode cL_law 278 = .ok (.if_icmp .eq 1686, 3) := by decide +kernel
theorem dL_law_283 : decode cL_law 283 = .ok (.aload_n 1, 1) := by decide +kernel
theorem dL_law_284 : decode cL_law 284 = .ok (.aload_n 0, 1) := by decide +kernel
theorem dL_law_285 : decode cL_law 285 = .ok (.iload_n 3, 1) := by decide +kernel
theorem dL_law_286 : decode cL_law 286 = .ok (.iconst 1, 1) := by decide +kernel
theorem dL_law_287 : decode cL_law 287 = .ok (.iadd, 1) := by decide +kernel
theorem dL_law_288 : decode cL_law 288 = .ok (.iaload, 1) := by decide +kernel
theorem dL_law_289 : decode cL_law 289 = .ok (.aload_n 0, 1) := by decide +kernel
theorem dL_law_290 : decode cL_law 290 = .ok (.iload_n 3, 1) := by decide +kernel
theorem dL_law_291 : decode cL_law 291 = .ok (.iconst 2, 1) := by decide +kernel
theorem dL_law_292 : decode cL_law 292 = .ok (.iadd, 1) := by decide +kernel
theorem dL_law_293 : decode cL_law 293 = .ok (.iaload, 1) := by decide +kernel
theorem dL_law_294 : decode cL_law 294 = .ok (.invokevirtual 18, 3) := by decide +kernel
theorem dL_law_297 : decode cL_law 297 = .ok (.aload_n 2, 1) := by decide +kernel
theorem dL_law_298 : decode cL_law 298 = .ok (.aload_n 0, 1) := by decide +kernel
theorem dL_law_299 : decode cL_law 299 = .ok (.iload_n 3, 1) := by decide +kernel
theorem dL_law_300 : decode cL_law 300 = .ok (.iconst 1, 1) := by decide +kernel
theorem dL_law_301 : decode cL_law 301 = .ok (.iadd, 1) := by decide +kernel
theorem dL_law_302 : decode cL_law 302 = .ok (.iaload, 1) := by decide +kernel
theorem dL_law_303 : decode cL_law 303 = .ok (.aload_n 0, 1) := by decide +kernel
theorem dL_law_304 : decode cL_law 304 = .ok (.iload_n 3, 1) := by decide +kernel
theorem dL_law_305 : decode cL_law 305 = .ok (.iconst 2, 1) := by decide +kernel
theorem dL_law_306 : decode cL_law 306 = .ok (.iadd, 1) := by decide +kernel
theorem dL_law_307 : decode cL_law 307 = .ok (.iaload, 1) := by decide +kernel
theorem dL_law_308 : decode cL_law 308 = .ok (.invokevirtual 22, 3) := by decide +kernel
theorem dL_law_311 : decode cL_law 311 = .ok (.if_icmp .eq 1653, 3) := by decide +kernel
theorem dL_law_316 : decode cL_law 316 = .ok (.aload_n 1, 1) := by decide +kernel
theorem dL_law_317 : decode cL_law 317 = .ok (.aload_n 0, 1) := by decide +kernel
theorem dL_law_318 : decode cL_law 318 = .ok (.iload_n 3, 1) := by decide +kernel
theorem dL_law_319 : decode cL_law 319 = .ok (.iconst 1, 1) := by decide +kernel
theorem dL_law_320 : decode cL_law 320 = .ok (.iadd, 1) := by decide +kernel
theorem dL_law_321 : decode cL_law 321 = .ok (.iaload, 1) := by decide +kernel
theorem dL_law_322 : decode cL_law 322 = .ok (.aload_n 0, 1) := by decide +kernel
theorem dL_law_323 : decode cL_law 323 = .ok (.iload_n 3, 1) := by decide +kernel
theorem dL_law_324 : decode cL_law 324 = .ok (.iconst 2, 1) := by decide +kernel
theorem dL_law_325 : decode cL_law 325 = .ok (.iadd, 1) := by decide +kernel
theorem dL_law_326 : decode cL_law 326 = .ok (.iaload, 1) := by decide +kernel
theorem dL_law_327 : decode cL_law 327 = .ok (.aload_n 0, 1) := by decide +kernel
theorem dL_law_328 : decode cL_law 328 = .ok (.iload_n 3, 1) := by decide +kernel
theorem dL_law_329 : decode cL_law 329 = .ok (.iconst 3, 1) := by decide +kernel
theorem dL_law_330 : decode cL_law 330 = .ok (.iadd, 1) := by decide +kernel
theorem dL_law_331 : decode cL_law 331 = .ok (.iaload, 1) := by decide +kernel
theorem dL_law_332 : decode cL_law 332 = .ok (.aload_n 0, 1) := by decide +kernel
theorem dL_law_333 : decode cL_law 333 = .ok (.iload_n 3, 1) := by decide +kernel
theorem dL_law_334 : decode cL_law 334 = .ok (.iconst 4, 1) := by decide +kernel
theorem dL_law_335 : decode cL_law 335 = .ok (.iadd, 1) := by decide +kernel
theorem dL_law_336 : decode cL_law 336 = .ok (.iaload, 1) := by decide +kernel
theorem dL_law_337 : decode cL_law 337 = .ok (.invokevirtual 23, 3) := by decide +kernel
theorem dL_law_340 : decode cL_law 340 = .ok (.aload_n 2, 1) := by decide +kernel
theorem dL_law_341 : decode cL_law 341 = .ok (.aload_n 0, 1) := by decide +kernel
theorem dL_law_342 : decode cL_law 342 = .ok (.iload_n 3, 1) := by decide +kernel
theorem dL_law_343 : decode cL_law 343 = .ok (.iconst 1, 1) := by decide +kernel
theorem dL_law_344 : decode cL_law 344 = .ok (.iadd, 1) := by decide +kernel
theorem dL_law_345 : decode cL_law 345 = .ok (.iaload, 1) := by decide +kernel
theorem dL_law_346 : decode cL_law 346 = .ok (.aload_n 0, 1) := by decide +kernel
theorem dL_law_347 : decode cL_law 347 = .ok (.iload_n 3, 1) := by decide +kernel
theorem dL_law_348 : decode cL_law 348 = .ok (.iconst 2, 1) := by decide +kernel
theorem dL_law_349 : decode cL_law 349 = .ok (.iadd, 1) := by decide +kernel
theorem dL_law_350 : decode cL_law 350 = .ok (.iaload, 1) := by decide +kernel
theorem dL_law_351 : decode cL_law 351 = .ok (.aload_n 0, 1) := by decide +kernel
theorem dL_law_352 : decode cL_law 352 = .ok (.iload_n 3, 1) := by decide +kernel
theorem dL_law_353 : decode cL_law 353 = .ok (.iconst 3, 1) := by decide +kernel
theorem dL_law_354 : decode cL_law 354 = .ok (.iadd, 1) := by decide +kernel
theorem dL_law_355 : decode cL_law 355 = .ok (.iaload, 1) := by decide +kernel
theorem dL_law_356 : decode cL_law 356 = .ok (.aload_n 0, 1) := by decide +kernel
theorem dL_law_357 : decode cL_law 357 = .ok (.iload_n 3, 1) := by decide +kernel
theorem dL_law_358 : decode cL_law 358 = .ok (.iconst 4, 1) := by decide +kernel
theorem dL_law_359 : decode cL_law 359 = .ok (.iadd, 1) := by decide +kernel
theorem dL_law_360 : decode cL_law 360 = .ok (.iaload, 1) := by decide +kernel
theorem dL_law_361 : decode cL_law 361 = .ok (.invokevirtual 27, 3) := by decide +kernel
theorem dL_law_364 : decode cL_law 364 = .ok (.if_icmp .eq 1600, 3) := by decide +kernel
theorem dL_law_369 : decode cL_law 369 = .ok (.aload_n 1, 1) := by decide +kernel
theorem dL_law_370 : decode cL_law 370 = .ok (.aload_n 0, 1) := by decide +kernel
theorem dL_law_371 : decode cL_law 371 = .ok (.iload_n 3, 1) := by decide +kernel
theorem dL_law_372 : decode cL_law 372 = .ok (.iconst 1, 1) := by decide +kernel
theorem dL_law_373 : decode cL_law 373 = .ok (.iadd, 1) := by decide +kernel
theorem dL_law_374 : decode cL_law 374 = .ok (.iaload, 1) := by decide +kernel
theorem dL_law_375 : decode cL_law 375 = .ok (.aload_n 0, 1) := by decide +kernel
theorem dL_law_376 : decode cL_law 376 = .ok (.iload_n 3, 1) := by decide +kernel
theorem dL_law_377 : decode cL_law 377 = .ok (.iconst 2, 1) := by decide +kernel
theorem dL_law_378 : decode cL_law 378 = .ok (.iadd, 1) := by decide +kernel
theorem dL_law_379 : decode cL_law 379 = .ok (.iaload, 1) := by decide +kernel
theorem dL_law_380 : decode cL_law 380 = .ok (.aload_n 0, 1) := by decide +kernel
theorem dL_law_381 : decode cL_law 381 = .ok (.iload_n 3, 1) := by decide +kernel
theorem dL_law_382 : decode cL_law 382 = .ok (.iconst 3, 1) := by decide +kernel
theorem dL_law_383 : decode cL_law 383 = .ok (.iadd, 1) := by decide +kernel
theorem dL_law_384 : decode cL_law 384 = .ok (.iaload, 1) := by decide +kernel
theorem dL_law_385 : decode cL_law 385 = .ok (.ifCond .eq 7, 3) := by decide +kernel
theorem dL_law_388 : decode cL_law 388 = .ok (.iconst 1, 1) := by decide +kernel
theorem dL_law_389 : decode cL_law 389 = .ok (.goto 4, 3) := by decide +kernel
theorem dL_law_392 : decode cL_law 392 = .ok (.iconst 0, 1) := by decide +kernel
theorem dL_law_393 : decode cL_law 393 = .ok (.invokevirtual 28, 3) := by decide +kernel
theorem dL_law_396 : decode cL_law 396 = .ok (.aload_n 2, 1) := by decide +kernel
theorem dL_law_397 : decode cL_law 397 = .ok (.aload_n 0, 1) := by decide +kernel
theorem dL_law_398 : decode cL_law 398 = .ok (.iload_n 3, 1) := by decide +kernel
theorem dL_law_399 : decode cL_law 399 = .ok (.iconst 1, 1) := by decide +kernel
theorem dL_law_400 : decode cL_law 400 = .ok (.iadd, 1) := by decide +kernel
theorem dL_law_401 : decode cL_law 401 = .ok (.iaload, 1) := by decide +kernel
theorem dL_law_402 : decode cL_law 402 = .ok (.aload_n 0, 1) := by decide +kernel
theorem dL_law_403 : decode cL_law 403 = .ok (.iload_n 3, 1) := by decide +kernel
theorem dL_law_404 : decode cL_law 404 = .ok (.iconst 2, 1) := by decide +kernel
theorem dL_law_405 : decode cL_law 405 = .ok (.iadd, 1) := by decide +kernel
theorem dL_law_406 : decode cL_law 406 = .ok (.iaload, 1) := by decide +kernel
theorem dL_law_407 : decode cL_law 407 = .ok (.aload_n 0, 1) := by decide +kernel
theorem dL_law_408 : decode cL_law 408 = .ok (.iload_n 3, 1) := by decide +kernel
theorem dL_law_409 : decode cL_law 409 = .ok (.iconst 3, 1) := by decide +kernel
theorem dL_law_410 : decode cL_law 410 = .ok (.iadd, 1) := by decide +kernel
theorem dL_law_411 : decode cL_law 411 = .ok (.iaload, 1) := by decide +kernel
theorem dL_law_412 : decode cL_law 412 = .ok (.ifCond .eq 7, 3) := by decide +kernel
theorem dL_law_415 : decode cL_law 415 = .ok (.iconst 1, 1) := by decide +kernel
theorem dL_law_416 : decode cL_law 416 = .ok (.goto 4, 3) := by decide +kernel
theorem dL_law_419 : decode cL_law 419 = .ok (.iconst 0, 1) := by decide +kernel
theorem dL_law_420 : decode cL_law 420 = .ok (.invokevirtual 32, 3) := by decide +kernel
theorem dL_law_423 : decode cL_law 423 = .ok (.if_icmp .eq 1541, 3) := by decide +kernel
theorem dL_law_428 : decode cL_law 428 = .ok (.aload_n 1, 1) := by decide +kernel
theorem dL_law_429 : decode cL_law 429 = .ok (.aload_n 0, 1) := by decide +kernel
theorem dL_law_430 : decode cL_law 430 = .ok (.iload_n 3, 1) := by decide +kernel
theorem dL_law_431 : decode cL_law 431 = .ok (.iconst 1, 1) := by decide +kernel
theorem dL_law_432 : decode cL_law 432 = .ok (.iadd, 1) := by decide +kernel
theorem dL_law_433 : decode cL_law 433 = .ok (.iaload, 1) := by decide +kernel
theorem dL_law_434 : decode cL_law 434 = .ok (.aload_n 0, 1) := by decide +kernel
theorem dL_law_435 : decode cL_law 435 = .ok (.iload_n 3, 1) := by decide +kernel
theorem dL_law_436 : decode cL_law 436 = .ok (.iconst 2, 1) := by decide +kernel
theorem dL_law_437 : decode cL_law 437 = .ok (.iadd, 1) := by decide +kernel
theorem dL_law_438 : decode cL_law 438 = .ok (.iaload, 1) := by decide +kernel
theorem dL_law_439 : decode cL_law 439 = .ok (.aload_n 0, 1) := by decide +kernel
theorem dL_law_440 : decode cL_law 440 = .ok (.iload_n 3, 1) := by decide +kernel
theorem dL_law_441 : decode cL_law 441 = .ok (.iconst 3, 1) := by decide +kernel
theorem dL_law_442 : decode cL_law 442 = .ok (.iadd, 1) := by decide +kernel
theorem dL_law_443 : decode cL_law 443 = .ok (.iaload, 1) := by decide +kernel
theorem dL_law_444 : decode cL_law 444 = .ok (.aload_n 0, 1) := by decide +kernel
theorem dL_law_445 : decode cL_law 445 = .ok (.iload_n 3, 1) := by decide +kernel
theorem dL_law_446 : decode cL_law 446 = .ok (.iconst 4, 1) := by decide +kernel
theorem dL_law_447 : decode cL_law 447 = .ok (.iadd, 1) := by decide +kernel
theorem dL_law_448 : decode cL_law 448 = .ok (.iaload, 1) := by decide +kernel
theorem dL_law_449 : decode cL_law 449 = .ok (.aload_n 0, 1) := by decide +kernel
theorem dL_law_450 : decode cL_law 450 = .ok (.iload_n 3, 1) := by decide +kernel
theorem dL_law_451 : decode cL_law 451 = .ok (.iconst 5, 1) := by decide +kernel
theorem dL_law_452 : decode cL_law 452 = .ok (.iadd, 1) := by decide +kernel
theorem dL_law_453 : decode cL_law 453 = .ok (.iaload, 1) := by decide +kernel
theorem dL_law_454 : decode cL_law 454 = .ok (.invokevirtual 33, 3) := by decide +kernel
theorem dL_law_457 : decode cL_law 457 = .ok (.aload_n 2, 1) := by decide +kernel
theorem dL_law_458 : decode cL_law 458 = .ok (.aload_n 0, 1) := by decide +kernel
theorem dL_law_459 : decode cL_law 459 = .ok (.iload_n 3, 1) := by decide +kernel
theorem dL_law_460 : decode cL_law 460 = .ok (.iconst 1, 1) := by decide +kernel
theorem dL_law_461 : decode cL_law 461 = .ok (.iadd, 1) := by decide +kernel
theorem dL_law_462 : decode cL_law 462 = .ok (.iaload, 1) := by decide +kernel
theorem dL_law_463 : decode cL_law 463 = .ok (.aload_n 0, 1) := by decide +kernel
theorem dL_law_464 : decode cL_law 464 = .ok (.iload_n 3, 1) := by decide +kernel
theorem dL_law_465 : decode cL_law 465 = .ok (.iconst 2, 1) := by decide +kernel
theorem dL_law_466 : decode cL_law 466 = .ok (.iadd, 1) := by decide +kernel
theorem dL_law_467 : decode cL_law 467 = .ok (.iaload, 1) := by decide +kernel
theorem dL_law_468 : decode cL_law 468 = .ok (.aload_n 0, 1) := by decide +kernel
theorem dL_law_469 : decode cL_law 469 = .ok (.iload_n 3, 1) := by decide +kernel
theorem dL_law_470 : decode cL_law 470 = .ok (.iconst 3, 1) := by decide +kernel
theorem dL_law_471 : decode cL_law 471 = .ok (.iadd, 1) := by decide +kernel
theorem dL_law_472 : decode cL_law 472 = .ok (.iaload, 1) := by decide +kernel
theorem dL_law_473 : decode cL_law 473 = .ok (.aload_n 0, 1) := by decide +kernel
theorem dL_law_474 : decode cL_law 474 = .ok (.iload_n 3, 1) := by decide +kernel
theorem dL_law_475 : decode cL_law 475 = .ok (.iconst 4, 1) := by decide +kernel
theorem dL_law_476 : decode cL_law 476 = .ok (.iadd, 1) := by decide +kernel
theorem dL_law_477 : decode cL_law 477 = .ok (.iaload, 1) := by decide +kernel
theorem dL_law_478 : decode cL_law 478 = .ok (.aload_n 0, 1) := by decide +kernel
theorem dL_law_479 : decode cL_law 479 = .ok (.iload_n 3, 1) := by decide +kernel
theorem dL_law_480 : decode cL_law 480 = .ok (.iconst 5, 1) := by decide +kernel
theorem dL_law_481 : decode cL_law 481 = .ok (.iadd, 1) := by decide +kernel
theorem dL_law_482 : decode cL_law 482 = .ok (.iaload, 1) := by decide +kernel
theorem dL_law_483 : decode cL_law 483 = .ok (.invokevirtual 37, 3) := by decide +kernel
theorem dL_law_486 : decode cL_law 486 = .ok (.if_icmp .eq 1478, 3) := by decide +kernel
theorem dL_law_491 : decode cL_law 491 = .ok (.aload_n 1, 1) := by decide +kernel
theorem dL_law_492 : decode cL_law 492 = .ok (.aload_n 0, 1) := by decide +kernel
theorem dL_law_493 : decode cL_law 493 = .ok (.iload_n 3, 1) := by decide +kernel
theorem dL_law_494 : decode cL_law 494 = .ok (.iconst 1, 1) := by decide +kernel
theorem dL_law_495 : decode cL_law 495 = .ok (.iadd, 1) := by decide +kernel
theorem dL_law_496 : decode cL_law 496 = .ok (.iaload, 1) := by decide +kernel
theorem dL_law_497 : decode cL_law 497 = .ok (.ifCond .eq 7, 3) := by decide +kernel
theorem dL_law_500 : decode cL_law 500 = .ok (.iconst 1, 1) := by decide +kernel
theorem dL_law_501 : decode cL_law 501 = .ok (.goto 4, 3) := by decide +kernel
theorem dL_law_504 : decode cL_law 504 = .ok (.iconst 0, 1) := by decide +kernel
theorem dL_law_505 : decode cL_law 505 = .ok (.aload_n 0, 1) := by decide +kernel
theorem dL_law_506 : decode cL_law 506 = .ok (.iload_n 3, 1) := by decide +kernel
theorem dL_law_507 : decode cL_law 507 = .ok (.iconst 2, 1) := by decide +kernel
theorem dL_law_508 : decode cL_law 508 = .ok (.iadd, 1) := by decide +kernel
theorem dL_law_509 : decode cL_law 509 = .ok (.iaload, 1) := by decide +kernel
theorem dL_law_510 : decode cL_law 510 = .ok (.aload_n 0, 1) := by decide +kernel
theorem dL_law_511 : decode cL_law 511 = .ok (.iload_n 3, 1) := by decide +kernel
theorem dL_law_512 : decode cL_law 512 = .ok (.iconst 3, 1) := by decide +kernel
theorem dL_law_513 : decode cL_law 513 = .ok (.iadd, 1) := by decide +kernel
theorem dL_law_514 : decode cL_law 514 = .ok (.iaload, 1) := by decide +kernel
theorem dL_law_515 : decode cL_law 515 = .ok (.aload_n 0, 1) := by decide +kernel
theorem dL_law_516 : decode cL_law 516 = .ok (.iload_n 3, 1) := by decide +kernel
theorem dL_law_517 : decode cL_law 517 = .ok (.iconst 4, 1) := by decide +kernel
theorem dL_law_518 : decode cL_law 518 = .ok (.iadd, 1) := by decide +kernel
theorem dL_law_519 : decode cL_law 519 = .ok (.iaload, 1) := by decide +kernel
theorem dL_law_520 : decode cL_law 520 = .ok (.invokevirtual 38, 3) := by decide +kernel
theorem dL_law_523 : decode cL_law 523 = .ok (.aload_n 2, 1) := by decide +kernel
theorem dL_law_524 : decode cL_law 524 = .ok (.aload_n 0, 1) := by decide +kernel
theorem dL_law_525 : decode cL_law 525 = .ok (.iload_n 3, 1) := by decide +kernel
theorem dL_law_526 : decode cL_law 526 = .ok (.iconst 1, 1) := by decide +kernel
theorem dL_law_527 : decode cL_law 527 = .ok (.iadd, 1) := by decide +kernel
theorem dL_law_528 : decode cL_law 528 = .ok (.iaload, 1) := by decide +kernel
theorem dL_law_529 : decode cL_law 529 = .ok (.ifCond .eq 7, 3) := by decide +kernel
theorem dL_law_532 : decode cL_law 532 = .ok (.iconst 1, 1) := by decide +kernel
theorem dL_law_533 : decode cL_law 533 = .ok (.goto 4, 3) := by decide +kernel
theorem dL_law_536 : decode cL_law 536 = .ok (.iconst 0, 1) := by decide +kernel
theorem dL_law_537 : decode cL_law 537 = .ok (.aload_n 0, 1) := by decide +kernel
theorem dL_law_538 : decode cL_law 538 = .ok (.iload_n 3, 1) := by decide +kernel
theorem dL_law_539 : decode cL_law 539 = .ok (.iconst 2, 1) := by decide +kernel
theorem dL_law_540 : decode cL_law 540 = .ok (.iadd, 1) := by decide +kernel
theorem dL_law_541 : decode cL_law 541 = .ok (.iaload, 1) := by decide +kernel
theorem dL_law_542 : decode cL_law 542 = .ok (.aload_n 0, 1) := by decide +kernel
theorem dL_law_543 : decode cL_law 543 = .ok (.iload_n 3, 1) := by decide +kernel
theorem dL_law_544 : decode cL_law 544 = .ok (.iconst 3, 1) := by decide +kernel
theorem dL_law_545 : decode cL_law 545 = .ok (.iadd, 1) := by decide +kernel
theorem dL_law_546 : decode cL_law 546 = .ok (.iaload, 1) := by decide +kernel
theorem dL_law_547 : decode cL_law 547 = .ok (.aload_n 0, 1) := by decide +kernel
theorem dL_law_548 : decode cL_law 548 = .ok (.iload_n 3, 1) := by decide +kernel
theorem dL_law_549 : decode cL_law 549 = .ok (.iconst 4, 1) := by decide +kernel
theorem dL_law_550 : decode cL_law 550 = .ok (.iadd, 1) := by decide +kernel
theorem dL_law_551 : decode cL_law 551 = .ok (.iaload, 1) := by decide +kernel
theorem dL_law_552 : decode cL_law 552 = .ok (.invokevirtual 42, 3) := by decide +kernel
theorem dL_law_555 : decode cL_law 555 = .ok (.if_icmp .eq 1409, 3) := by decide +kernel
section LWC
variable {p : Program} {l : Launch} {e : Env} {R : Room} {s : State} {m : MethodId} {args : Array Value} {below : List Frame} {meth : Method} {c : Code} {H : Heap} {locs : List Loc} {Q : State → Prop} {rt : Option FieldType} {ls : Array Slot} {dC : Nat → ClassId} {dI : Nat → Nat → Nat} {cs : Nat → ClassId} {ad : Nat → Nat} {A : Nat → Prop} {D0 : Nat → Nat} {cells slots b L i : Nat} {xs : Nat → Int32}
set_option maxRecDepth 100000 in
set_option maxHeartbeats 4000000 in
theorem lc_0 (F : Fx p s m args meth c cL_law 4 RL rt dC dI cs A) (hX : va_X b L xs s s.heap) (hbl : b < s.heap.size) (hbA : ¬ A b) (hR1 : 8 ≤ R.frames) (hR2 : 342 ≤ R.locals) (hcs : cells ≤ R.cells ∧ slots ≤ R.slots) {S S1 S2 : SS} {r1 r2 : Int32} (hi : i + 6 ≤ L) (hL : L ≤ 3072) (w : Wo dC dI cs ad A s.heap D0 S H locs) (hl : lv_has ls 4 [(0, .ref b), (1, .ref (ad 61)), (2, .ref (ad 0)), (3, .int (nI i))]) (h1 : f_Yard_track (xs (i + 1)) S = some (r1, S1)) (h2 : f_M_track (xs (i + 1)) S1 = some (r2, S2)) (hr : r1 = r2)
    (kk : ∀ (H : Heap) (locs : List Loc), Wo dC dI cs ad A s.heap D0 S2 H locs → W p l e R s m args below meth c H locs cells slots Q (F0 m 1964 ls [])) : W p l e R s m args below meth c H locs cells slots Q (F0 m 260 ls []) := by
  have hx := F.1.1
  have hb := F.1.2.1
  refine lv_aload_n (pc := 260) hx hb dL_law_260 rfl (lv_at hl 1 rfl) ?_
  refine lv_aload_n (pc := 261) hx hb dL_law_261 rfl (lv_at hl 0 rfl) ?_
  refine lv_iload_n (pc := 262) hx hb dL_law_262 rfl (lv_at hl 3 rfl) ?_
  refine lv_iconst (pc := 263) (v := 1) hx hb dL_law_263 (by decide) ?_
  refine lv_iadd (pc := 264) hx hb dL_law_264 ?_
  rw [show nI i + (1 : Int32) = nI (i + 1) from nI_add i 1]
  refine va_sld (pc := 265) hx hb hX hbl hbA w.2.2.1 (vp_in_nI (show i + 1 < L by omega) (by omega)) dL_law_265 ?_
  rw [nI_clamp (show i + 1 < 2 ^ 31 by omega)]
  refine s_cvi (pc := 266) [.int (xs (i + 1))] (fun ad => [.ref (ad 61), .int (xs (i + 1))]) F w (m_Yard_track _ _ _ _ h1) rfl rfl hl.1 ds_61 vc_X11 rfl ok_X11_track rfl kc_X11_track kl_L_13 ki_X11_track kv_X11_track kn_X11 ⟨Nat.le_trans (by decide) hR1, Nat.le_trans (by decide) hR2⟩ hcs (Nat.le_of_ble_eq_true rfl) dL_law_266 (fun H locs w => ?_)
  refine lv_aload_n (pc := 269) hx hb dL_law_269 rfl (lv_at hl 2 rfl) ?_
  refine lv_aload_n (pc := 270) hx hb dL_law_270 rfl (lv_at hl 0 rfl) ?_
  refine lv_iload_n (pc := 271) hx hb dL_law_271 rfl (lv_at hl 3 rfl) ?_
  refine lv_iconst (pc := 272) (v := 1) hx hb dL_law_272 (by decide) ?_
  refine lv_iadd (pc := 273) hx hb dL_law_273 ?_
  rw [show nI i + (1 : Int32) = nI (i + 1) from nI_add i 1]
  refine va_sld (pc := 274) hx hb hX hbl hbA w.2.2.1 (vp_in_nI (show i + 1 < L by omega) (by omega)) dL_law_274 ?_
  rw [nI_clamp (show i + 1 < 2 ^ 31 by omega)]
  refine s_cvi (pc := 275) [.int (xs (i + 1))] (fun ad => [.ref (ad 0), .int (xs (i + 1))]) F w (m_M_track _ _ _ _ h2) rfl rfl hl.1 ds_0 vc_X12 rfl ok_X12_track rfl kc_X12_track kl_L_17 ki_X12_track kv_X12_track kn_X12 ⟨Nat.le_trans (by decide) hR1, Nat.le_trans (by decide) hR2⟩ hcs (Nat.le_of_ble_eq_true rfl) dL_law_275 (fun H locs w => ?_)
  refine lv_icmp_eq (pc := 278) (tgt := 1964) hx hb dL_law_278 (by decide) (fun q => ?_) (fun q => absurd hr q)
  exact kk H locs w
set_option maxRecDepth 100000 in
set_option maxHeartbeats 4000000 in
theorem lc_1 (F : Fx p s m args meth c cL_law 4 RL rt dC dI cs A) (hX : va_X b L xs s s.heap) (hbl : b < s.heap.size) (hbA : ¬ A b) (hR1 : 8 ≤ R.frames) (hR2 : 342 ≤ R.locals) (hcs : cells ≤ R.cells ∧ slots ≤ R.slots) {S S1 S2 : SS} {r1 r2 : Int32} (hi : i + 6 ≤ L) (hL : L ≤ 3072) (w : Wo dC dI cs ad A s.heap D0 S H locs) (hl : lv_has ls 4 [(0, .ref b), (1, .ref (ad 61)), (2, .ref (ad 0)), (3, .int (nI i))]) (h1 : f_Yard_point (xs (i + 1)) (xs (i + 2)) S = some (r1, S1)) (h2 : f_M_point (xs (i + 1)) (xs (i + 2)) S1 = some (r2, S2)) (hr : r1 = r2)
    (kk : ∀ (H : Heap) (locs : List Loc), Wo dC dI cs ad A s.heap D0 S2 H locs → W p l e R s m args below meth c H locs cells slots Q (F0 m 1964 ls [])) : W p l e R s m args below meth c H locs cells slots Q (F0 m 283 ls []) := by
  have hx := F.1.1
  have hb := F.1.2.1
  refine lv_aload_n (pc := 283) hx hb dL_law_283 rfl (lv_at hl 1 rfl) ?_
  refine lv_aload_n (pc := 284) hx hb dL_law_284 rfl (lv_at hl 0 rfl) ?_
  refine lv_iload_n (pc := 285) hx hb dL_law_285 rfl (lv_at hl 3 rfl) ?_
  refine lv_iconst (pc := 286) (v := 1) hx hb dL_law_286 (by decide) ?_
  refine lv_iadd (pc := 287) hx hb dL_law_287 ?_
  rw [show nI i + (1 : Int32) = nI (i + 1) from nI_add i 1]
  refine va_sld (pc := 288) hx hb hX hbl hbA w.2.2.1 (vp_in_nI (show i + 1 < L by omega) (by omega)) dL_law_288 ?_
  rw [nI_clamp (show i + 1 < 2 ^ 31 by omega)]
  refine lv_aload_n (pc := 289) hx hb dL_law_289 rfl (lv_at hl 0 rfl) ?_
  refine lv_iload_n (pc := 290) hx hb dL_law_290 rfl (lv_at hl 3 rfl) ?_
  refine lv_iconst (pc := 291) (v := 2) hx hb dL_law_291 (by decide) ?_
  refine lv_iadd (pc := 292) hx hb dL_law_292 ?_
  rw [show nI i + (2 : Int32) = nI (i + 2) from nI_add i 2]
  refine va_sld (pc := 293) hx hb hX hbl hbA w.2.2.1 (vp_in_nI (show i + 2 < L by omega) (by omega)) dL_law_293 ?_
  rw [nI_clamp (show i + 2 < 2 ^ 31 by omega)]
  refine s_cvi (pc := 294) [.int (xs (i + 1)), .int (xs (i + 2))] (fun ad => [.ref (ad 61), .int (xs (i + 1)), .int (xs (i + 2))]) F w (m_Yard_point _ _ _ _ _ h1) rfl rfl hl.1 ds_61 vc_X11 rfl ok_X11_point rfl kc_X11_point kl_L_18 ki_X11_point kv_X11_point kn_X11 ⟨Nat.le_trans (by decide) hR1, Nat.le_trans (by decide) hR2⟩ hcs (Nat.le_of_ble_eq_true rfl) dL_law_294 (fun H locs w => ?_)
  refine lv_aload_n (pc := 297) hx hb dL_law_297 rfl (lv_at hl 2 rfl) ?_
  refine lv_aload_n (pc := 298) hx hb dL_law_298 rfl (lv_at hl 0 rfl) ?_
  refine lv_iload_n (pc := 299) hx hb dL_law_299 rfl (lv_at hl 3 rfl) ?_
  refine lv_iconst (pc := 300) (v := 1) hx hb dL_law_300 (by decide) ?_
  refine lv_iadd (pc := 301) hx hb dL_law_301 ?_
  rw [show nI i + (1 : Int32) = nI (i + 1) from nI_add i 1]
  refine va_sld (pc := 302) hx hb hX hbl hbA w.2.2.1 (vp_in_nI (show i + 1 < L by omega) (by omega)) dL_law_302 ?_
  rw [nI_clamp (show i + 1 < 2 ^ 31 by omega)]
  refine lv_aload_n (pc := 303) hx hb dL_law_303 rfl (lv_at hl 0 rfl) ?_
  refine lv_iload_n (pc := 304) hx hb dL_law_304 rfl (lv_at hl 3 rfl) ?_
  refine lv_iconst (pc := 305) (v := 2) hx hb dL_law_305 (by decide) ?_
  refine lv_iadd (pc := 306) hx hb dL_law_306 ?_
  rw [show nI i + (2 : Int32) = nI (i + 2) from nI_add i 2]
  refine va_sld (pc := 307) hx hb hX hbl hbA w.2.2.1 (vp_in_nI (show i + 2 < L by omega) (by omega)) dL_law_307 ?_
  rw [nI_clamp (show i + 2 < 2 ^ 31 by omega)]
  refine s_cvi (pc := 308) [.int (xs (i + 1)), .int (xs (i + 2))] (fun ad => [.ref (ad 0), .int (xs (i + 1)), .int (xs (i + 2))]) F w (m_M_point _ _ _ _ _ h2) rfl rfl hl.1 ds_0 vc_X12 rfl ok_X12_point rfl kc_X12_point kl_L_22 ki_X12_point kv_X12_point kn_X12 ⟨Nat.le_trans (by decide) hR1, Nat.le_trans (by decide) hR2⟩ hcs (Nat.le_of_ble_eq_true rfl) dL_law_308 (fun H locs w => ?_)
  refine lv_icmp_eq (pc := 311) (tgt := 1964) hx hb dL_law_311 (by decide) (fun q => ?_) (fun q => absurd hr q)
  exact kk H locs w
set_option maxRecDepth 100000 in
set_option maxHeartbeats 4000000 in
theorem lc_2 (F : Fx p s m args meth c cL_law 4 RL rt dC dI cs A) (hX : va_X b L xs s s.heap) (hbl : b < s.heap.size) (hbA : ¬ A b) (hR1 : 8 ≤ R.frames) (hR2 : 342 ≤ R.locals) (hcs : cells ≤ R.cells ∧ slots ≤ R.slots) {S S1 S2 : SS} {r1 r2 : Int32} (hi : i + 6 ≤ L) (hL : L ≤ 3072) (w : Wo dC dI cs ad A s.heap D0 S H locs) (hl : lv_has ls 4 [(0, .ref b), (1, .ref (ad 61)), (2, .ref (ad 0)), (3, .int (nI i))]) (h1 : f_Yard_link (xs (i + 1)) (xs (i + 2)) (xs (i + 3)) (xs (i + 4)) S = some (r1, S1)) (h2 : f_M_link (xs (i + 1)) (xs (i + 2)) (xs (i + 3)) (xs (i + 4)) S1 = some (r2, S2)) (hr : r1 = r2)
    (kk : ∀ (H : Heap) (locs : List Loc), Wo dC dI cs ad A s.heap D0 S2 H locs → W p l e R s m args below meth c H locs cells slots Q (F0 m 1964 ls [])) : W p l e R s m args below meth c H locs cells slots Q (F0 m 316 ls []) := by
  have hx := F.1.1
  have hb := F.1.2.1
  refine lv_aload_n (pc := 316) hx hb dL_law_316 rfl (lv_at hl 1 rfl) ?_
  refine lv_aload_n (pc := 317) hx hb dL_law_317 rfl (lv_at hl 0 rfl) ?_
  refine lv_iload_n (pc := 318) hx hb dL_law_318 rfl (lv_at hl 3 rfl) ?_
  refine lv_iconst (pc := 319) (v := 1) hx hb dL_law_319 (by decide) ?_
  refine lv_iadd (pc := 320) hx hb dL_law_320 ?_
  rw [show nI i + (1 : Int32) = nI (i + 1) from nI_add i 1]
  refine va_sld (pc := 321) hx hb hX hbl hbA w.2.2.1 (vp_in_nI (show i + 1 < L by omega) (by omega)) dL_law_321 ?_
  rw [nI_clamp (show i + 1 < 2 ^ 31 by omega)]
  refine lv_aload_n (pc := 322) hx hb dL_law_322 rfl (lv_at hl 0 rfl) ?_
  refine lv_iload_n (pc := 323) hx hb dL_law_323 rfl (lv_at hl 3 rfl) ?_
  refine lv_iconst (pc := 324) (v := 2) hx hb dL_law_324 (by decide) ?_
  refine lv_iadd (pc := 325) hx hb dL_law_325 ?_
  rw [show nI i + (2 : Int32) = nI (i + 2) from nI_add i 2]
  refine va_sld (pc := 326) hx hb hX hbl hbA w.2.2.1 (vp_in_nI (show i + 2 < L by omega) (by omega)) dL_law_326 ?_
  rw [nI_clamp (show i + 2 < 2 ^ 31 by omega)]
  refine lv_aload_n (pc := 327) hx hb dL_law_327 rfl (lv_at hl 0 rfl) ?_
  refine lv_iload_n (pc := 328) hx hb dL_law_328 rfl (lv_at hl 3 rfl) ?_
  refine lv_iconst (pc := 329) (v := 3) hx hb dL_law_329 (by decide) ?_
  refine lv_iadd (pc := 330) hx hb dL_law_330 ?_
  rw [show nI i + (3 : Int32) = nI (i + 3) from nI_add i 3]
  refine va_sld (pc := 331) hx hb hX hbl hbA w.2.2.1 (vp_in_nI (show i + 3 < L by omega) (by omega)) dL_law_331 ?_
  rw [nI_clamp (show i + 3 < 2 ^ 31 by omega)]
  refine lv_aload_n (pc := 332) hx hb dL_law_332 rfl (lv_at hl 0 rfl) ?_
  refine lv_iload_n (pc := 333) hx hb dL_law_333 rfl (lv_at hl 3 rfl) ?_
  refine lv_iconst (pc := 334) (v := 4) hx hb dL_law_334 (by decide) ?_
  refine lv_iadd (pc := 335) hx hb dL_law_335 ?_
  rw [show nI i + (4 : Int32) = nI (i + 4) from nI_add i 4]
  refine va_sld (pc := 336) hx hb hX hbl hbA w.2.2.1 (vp_in_nI (show i + 4 < L by omega) (by omega)) dL_law_336 ?_
  rw [nI_clamp (show i + 4 < 2 ^ 31 by omega)]
  refine s_cvi (pc := 337) [.int (xs (i + 1)), .int (xs (i + 2)), .int (xs (i + 3)), .int (xs (i + 4))] (fun ad => [.ref (ad 61), .int (xs (i + 1)), .int (xs (i + 2)), .int (xs (i + 3)), .int (xs (i + 4))]) F w (m_Yard_link _ _ _ _ _ _ _ h1) rfl rfl hl.1 ds_61 vc_X11 rfl ok_X11_link rfl kc_X11_link kl_L_23 ki_X11_link kv_X11_link kn_X11 ⟨Nat.le_trans (by decide) hR1, Nat.le_trans (by decide) hR2⟩ hcs (Nat.le_of_ble_eq_true rfl) dL_law_337 (fun H locs w => ?_)
  refine lv_aload_n (pc := 340) hx hb dL_law_340 rfl (lv_at hl 2 rfl) ?_
  refine lv_aload_n (pc := 341) hx hb dL_law_341 rfl (lv_at hl 0 rfl) ?_
  refine lv_iload_n (pc := 342) hx hb dL_law_342 rfl (lv_at hl 3 rfl) ?_
  refine lv_iconst (pc := 343) (v := 1) hx hb dL_law_343 (by decide) ?_
  refine lv_iadd (pc := 344) hx hb dL_law_344 ?_
  rw [show nI i + (1 : Int32) = nI (i + 1) from nI_add i 1]
  refine va_sld (pc := 345) hx hb hX hbl hbA w.2.2.1 (vp_in_nI (show i + 1 < L by omega) (by omega)) dL_law_345 ?_
  rw [nI_clamp (show i + 1 < 2 ^ 31 by omega)]
  refine lv_aload_n (pc := 346) hx hb dL_law_346 rfl (lv_at hl 0 rfl) ?_
  refine lv_iload_n (pc := 347) hx hb dL_law_347 rfl (lv_at hl 3 rfl) ?_
  refine lv_iconst (pc := 348) (v := 2) hx hb dL_law_348 (by decide) ?_
  refine lv_iadd (pc := 349) hx hb dL_law_349 ?_
  rw [show nI i + (2 : Int32) = nI (i + 2) from nI_add i 2]
  refine va_sld (pc := 350) hx hb hX hbl hbA w.2.2.1 (vp_in_nI (show i + 2 < L by omega) (by omega)) dL_law_350 ?_
  rw [nI_clamp (show i + 2 < 2 ^ 31 by omega)]
  refine lv_aload_n (pc := 351) hx hb dL_law_351 rfl (lv_at hl 0 rfl) ?_
  refine lv_iload_n (pc := 352) hx hb dL_law_352 rfl (lv_at hl 3 rfl) ?_
  refine lv_iconst (pc := 353) (v := 3) hx hb dL_law_353 (by decide) ?_
  refine lv_iadd (pc := 354) hx hb dL_law_354 ?_
  rw [show nI i + (3 : Int32) = nI (i + 3) from nI_add i 3]
  refine va_sld (pc := 355) hx hb hX hbl hbA w.2.2.1 (vp_in_nI (show i + 3 < L by omega) (by omega)) dL_law_355 ?_
  rw [nI_clamp (show i + 3 < 2 ^ 31 by omega)]
  refine lv_aload_n (pc := 356) hx hb dL_law_356 rfl (lv_at hl 0 rfl) ?_
  refine lv_iload_n (pc := 357) hx hb dL_law_357 rfl (lv_at hl 3 rfl) ?_
  refine lv_iconst (pc := 358) (v := 4) hx hb dL_law_358 (by decide) ?_
  refine lv_iadd (pc := 359) hx hb dL_law_359 ?_
  rw [show nI i + (4 : Int32) = nI (i + 4) from nI_add i 4]
  refine va_sld (pc := 360) hx hb hX hbl hbA w.2.2.1 (vp_in_nI (show i + 4 < L by omega) (by omega)) dL_law_360 ?_
  rw [nI_clamp (show i + 4 < 2 ^ 31 by omega)]
  refine s_cvi (pc := 361) [.int (xs (i + 1)), .int (xs (i + 2)), .int (xs (i + 3)), .int (xs (i + 4))] (fun ad => [.ref (ad 0), .int (xs (i + 1)), .int (xs (i + 2)), .int (xs (i + 3)), .int (xs (i + 4))]) F w (m_M_link _ _ _ _ _ _ _ h2) rfl rfl hl.1 ds_0 vc_X12 rfl ok_X12_link rfl kc_X12_link kl_L_27 ki_X12_link kv_X12_link kn_X12 ⟨Nat.le_trans (by decide) hR1, Nat.le_trans (by decide) hR2⟩ hcs (Nat.le_of_ble_eq_true rfl) dL_law_361 (fun H locs w => ?_)
  refine lv_icmp_eq (pc := 364) (tgt := 1964) hx hb dL_law_364 (by decide) (fun q => ?_) (fun q => absurd hr q)
  exact kk H locs w
set_option maxRecDepth 100000 in
set_option maxHeartbeats 4000000 in
theorem lc_3 (F : Fx p s m args meth c cL_law 4 RL rt dC dI cs A) (hX : va_X b L xs s s.heap) (hbl : b < s.heap.size) (hbA : ¬ A b) (hR1 : 8 ≤ R.frames) (hR2 : 342 ≤ R.locals) (hcs : cells ≤ R.cells ∧ slots ≤ R.slots) {S S1 S2 : SS} {r1 r2 : Int32} (hi : i + 6 ≤ L) (hL : L ≤ 3072) (w : Wo dC dI cs ad A s.heap D0 S H locs) (hl : lv_has ls 4 [(0, .ref b), (1, .ref (ad 61)), (2, .ref (ad 0)), (3, .int (nI i))]) (h1 : f_Yard_exit (xs (i + 1)) (xs (i + 2)) ((if xs (i + 3) = 0 then (0 : Int32) else 1)) S = some (r1, S1)) (h2 : f_M_exit (xs (i + 1)) (xs (i + 2)) ((if xs (i + 3) = 0 then (0 : Int32) else 1)) S1 = some (r2, S2)) (hr : r1 = r2)
    (kk : ∀ (H : Heap) (locs : List Loc), Wo dC dI cs ad A s.heap D0 S2 H locs → W p l e R s m args below meth c H locs cells slots Q (F0 m 1964 ls [])) : W p l e R s m args below meth c H locs cells slots Q (F0 m 369 ls []) := by
  have hx := F.1.1
  have hb := F.1.2.1
  refine lv_aload_n (pc := 369) hx hb dL_law_369 rfl (lv_at hl 1 rfl) ?_
  refine lv_aload_n (pc := 370) hx hb dL_law_370 rfl (lv_at hl 0 rfl) ?_
  refine lv_iload_n (pc := 371) hx hb dL_law_371 rfl (lv_at hl 3 rfl) ?_
  refine lv_iconst (pc := 372) (v := 1) hx hb dL_law_372 (by decide) ?_
  refine lv_iadd (pc := 373) hx hb dL_law_373 ?_
  rw [show nI i + (1 : Int32) = nI (i + 1) from nI_add i 1]
  refine va_sld (pc := 374) hx hb hX hbl hbA w.2.2.1 (vp_in_nI (show i + 1 < L by omega) (by omega)) dL_law_374 ?_
  rw [nI_clamp (show i + 1 < 2 ^ 31 by omega)]
  refine lv_aload_n (pc := 375) hx hb dL_law_375 rfl (lv_at hl 0 rfl) ?_
  refine lv_iload_n (pc := 376) hx hb dL_law_376 rfl (lv_at hl 3 rfl) ?_
  refine lv_iconst (pc := 377) (v := 2) hx hb dL_law_377 (by decide) ?_
  refine lv_iadd (pc := 378) hx hb dL_law_378 ?_
  rw [show nI i + (2 : Int32) = nI (i + 2) from nI_add i 2]
  refine va_sld (pc := 379) hx hb hX hbl hbA w.2.2.1 (vp_in_nI (show i + 2 < L by omega) (by omega)) dL_law_379 ?_
  rw [nI_clamp (show i + 2 < 2 ^ 31 by omega)]
  refine lv_aload_n (pc := 380) hx hb dL_law_380 rfl (lv_at hl 0 rfl) ?_
  refine lv_iload_n (pc := 381) hx hb dL_law_381 rfl (lv_at hl 3 rfl) ?_
  refine lv_iconst (pc := 382) (v := 3) hx hb dL_law_382 (by decide) ?_
  refine lv_iadd (pc := 383) hx hb dL_law_383 ?_
  rw [show nI i + (3 : Int32) = nI (i + 3) from nI_add i 3]
  refine va_sld (pc := 384) hx hb hX hbl hbA w.2.2.1 (vp_in_nI (show i + 3 < L by omega) (by omega)) dL_law_384 ?_
  rw [nI_clamp (show i + 3 < 2 ^ 31 by omega)]
  suffices hj : W p l e R s m args below meth c H locs cells slots Q (F0 m 393 ls (.int (if xs (i + 3) = 0 then (0 : Int32) else 1) :: [.int (xs (i + 2)), .int (xs (i + 1)), .ref (ad 61)])) by
    refine lv_if_eq (pc := 385) (tgt := 392) hx hb dL_law_385 (by decide) (fun q => ?_) (fun q => ?_)
    · refine lv_iconst (pc := 392) (v := 0) hx hb dL_law_392 (by decide) ?_
      rw [if_pos q] at hj
      exact hj
    · refine lv_iconst (pc := 388) (v := 1) hx hb dL_law_388 (by decide) ?_
      refine lv_goto (pc := 389) (tgt := 393) hx hb dL_law_389 (by decide) ?_
      rw [if_neg q] at hj
      exact hj
  refine s_cvi (pc := 393) [.int (xs (i + 1)), .int (xs (i + 2)), .int ((if xs (i + 3) = 0 then (0 : Int32) else 1))] (fun ad => [.ref (ad 61), .int (xs (i + 1)), .int (xs (i + 2)), .int ((if xs (i + 3) = 0 then (0 : Int32) else 1))]) F w (m_Yard_exit _ _ _ _ _ _ h1) rfl rfl hl.1 ds_61 vc_X11 rfl ok_X11_exit rfl kc_X11_exit kl_L_28 ki_X11_exit kv_X11_exit kn_X11 ⟨Nat.le_trans (by decide) hR1, Nat.le_trans (by decide) hR2⟩ hcs (Nat.le_of_ble_eq_true rfl) dL_law_393 (fun H locs w => ?_)
  refine lv_aload_n (pc := 396) hx hb dL_law_396 rfl (lv_at hl 2 rfl) ?_
  refine lv_aload_n (pc := 397) hx hb dL_law_397 rfl (lv_at hl 0 rfl) ?_
  refine lv_iload_n (pc := 398) hx hb dL_law_398 rfl (lv_at hl 3 rfl) ?_
  refine lv_iconst (pc := 399) (v := 1) hx hb dL_law_399 (by decide) ?_
  refine lv_iadd (pc := 400) hx hb dL_law_400 ?_
  rw [show nI i + (1 : Int32) = nI (i + 1) from nI_add i 1]
  refine va_sld (pc := 401) hx hb hX hbl hbA w.2.2.1 (vp_in_nI (show i + 1 < L by omega) (by omega)) dL_law_401 ?_
  rw [nI_clamp (show i + 1 < 2 ^ 31 by omega)]
  refine lv_aload_n (pc := 402) hx hb dL_law_402 rfl (lv_at hl 0 rfl) ?_
  refine lv_iload_n (pc := 403) hx hb dL_law_403 rfl (lv_at hl 3 rfl) ?_
  refine lv_iconst (pc := 404) (v := 2) hx hb dL_law_404 (by decide) ?_
  refine lv_iadd (pc := 405) hx hb dL_law_405 ?_
  rw [show nI i + (2 : Int32) = nI (i + 2) from nI_add i 2]
  refine va_sld (pc := 406) hx hb hX hbl hbA w.2.2.1 (vp_in_nI (show i + 2 < L by omega) (by omega)) dL_law_406 ?_
  rw [nI_clamp (show i + 2 < 2 ^ 31 by omega)]
  refine lv_aload_n (pc := 407) hx hb dL_law_407 rfl (lv_at hl 0 rfl) ?_
  refine lv_iload_n (pc := 408) hx hb dL_law_408 rfl (lv_at hl 3 rfl) ?_
  refine lv_iconst (pc := 409) (v := 3) hx hb dL_law_409 (by decide) ?_
  refine lv_iadd (pc := 410) hx hb dL_law_410 ?_
  rw [show nI i + (3 : Int32) = nI (i + 3) from nI_add i 3]
  refine va_sld (pc := 411) hx hb hX hbl hbA w.2.2.1 (vp_in_nI (show i + 3 < L by omega) (by omega)) dL_law_411 ?_
  rw [nI_clamp (show i + 3 < 2 ^ 31 by omega)]
  suffices hj : W p l e R s m args below meth c H locs cells slots Q (F0 m 420 ls (.int (if xs (i + 3) = 0 then (0 : Int32) else 1) :: [.int (xs (i + 2)), .int (xs (i + 1)), .ref (ad 0), .int (r1)])) by
    refine lv_if_eq (pc := 412) (tgt := 419) hx hb dL_law_412 (by decide) (fun q => ?_) (fun q => ?_)
    · refine lv_iconst (pc := 419) (v := 0) hx hb dL_law_419 (by decide) ?_
      rw [if_pos q] at hj
      exact hj
    · refine lv_iconst (pc := 415) (v := 1) hx hb dL_law_415 (by decide) ?_
      refine lv_goto (pc := 416) (tgt := 420) hx hb dL_law_416 (by decide) ?_
      rw [if_neg q] at hj
      exact hj
  refine s_cvi (pc := 420) [.int (xs (i + 1)), .int (xs (i + 2)), .int ((if xs (i + 3) = 0 then (0 : Int32) else 1))] (fun ad => [.ref (ad 0), .int (xs (i + 1)), .int (xs (i + 2)), .int ((if xs (i + 3) = 0 then (0 : Int32) else 1))]) F w (m_M_exit _ _ _ _ _ _ h2) rfl rfl hl.1 ds_0 vc_X12 rfl ok_X12_exit rfl kc_X12_exit kl_L_32 ki_X12_exit kv_X12_exit kn_X12 ⟨Nat.le_trans (by decide) hR1, Nat.le_trans (by decide) hR2⟩ hcs (Nat.le_of_ble_eq_true rfl) dL_law_420 (fun H locs w => ?_)
  refine lv_icmp_eq (pc := 423) (tgt := 1964) hx hb dL_law_423 (by decide) (fun q => ?_) (fun q => absurd hr q)
  exact kk H locs w
set_option maxRecDepth 100000 in
set_option maxHeartbeats 4000000 in
theorem lc_4 (F : Fx p s m args meth c cL_law 4 RL rt dC dI cs A) (hX : va_X b L xs s s.heap) (hbl : b < s.heap.size) (hbA : ¬ A b) (hR1 : 8 ≤ R.frames) (hR2 : 342 ≤ R.locals) (hcs : cells ≤ R.cells ∧ slots ≤ R.slots) {S S1 S2 : SS} {r1 r2 : Int32} (hi : i + 6 ≤ L) (hL : L ≤ 3072) (w : Wo dC dI cs ad A s.heap D0 S H locs) (hl : lv_has ls 4 [(0, .ref b), (1, .ref (ad 61)), (2, .ref (ad 0)), (3, .int (nI i))]) (h1 : f_Yard_wagon (xs (i + 1)) (xs (i + 2)) (xs (i + 3)) (xs (i + 4)) (xs (i + 5)) S = some (r1, S1)) (h2 : f_M_wagon (xs (i + 1)) (xs (i + 2)) (xs (i + 3)) (xs (i + 4)) (xs (i + 5)) S1 = some (r2, S2)) (hr : r1 = r2)
    (kk : ∀ (H : Heap) (locs : List Loc), Wo dC dI cs ad A s.heap D0 S2 H locs → W p l e R s m args below meth c H locs cells slots Q (F0 m 1964 ls [])) : W p l e R s m args below meth c H locs cells slots Q (F0 m 428 ls []) := by
  have hx := F.1.1
  have hb := F.1.2.1
  refine lv_aload_n (pc := 428) hx hb dL_law_428 rfl (lv_at hl 1 rfl) ?_
  refine lv_aload_n (pc := 429) hx hb dL_law_429 rfl (lv_at hl 0 rfl) ?_
  refine lv_iload_n (pc := 430) hx hb dL_law_430 rfl (lv_at hl 3 rfl) ?_
  refine lv_iconst (pc := 431) (v := 1) hx hb dL_law_431 (by decide) ?_
  refine lv_iadd (pc := 432) hx hb dL_law_432 ?_
  rw [show nI i + (1 : Int32) = nI (i + 1) from nI_add i 1]
  refine va_sld (pc := 433) hx hb hX hbl hbA w.2.2.1 (vp_in_nI (show i + 1 < L by omega) (by omega)) dL_law_433 ?_
  rw [nI_clamp (show i + 1 < 2 ^ 31 by omega)]
  refine lv_aload_n (pc := 434) hx hb dL_law_434 rfl (lv_at hl 0 rfl) ?_
  refine lv_iload_n (pc := 435) hx hb dL_law_435 rfl (lv_at hl 3 rfl) ?_
  refine lv_iconst (pc := 436) (v := 2) hx hb dL_law_436 (by decide) ?_
  refine lv_iadd (pc := 437) hx hb dL_law_437 ?_
  rw [show nI i + (2 : Int32) = nI (i + 2) from nI_add i 2]
  refine va_sld (pc := 438) hx hb hX hbl hbA w.2.2.1 (vp_in_nI (show i + 2 < L by omega) (by omega)) dL_law_438 ?_
  rw [nI_clamp (show i + 2 < 2 ^ 31 by omega)]
  refine lv_aload_n (pc := 439) hx hb dL_law_439 rfl (lv_at hl 0 rfl) ?_
  refine lv_iload_n (pc := 440) hx hb dL_law_440 rfl (lv_at hl 3 rfl) ?_
  refine lv_iconst (pc := 441) (v := 3) hx hb dL_law_441 (by decide) ?_
  refine lv_iadd (pc := 442) hx hb dL_law_442 ?_
  rw [show nI i + (3 : Int32) = nI (i + 3) from nI_add i 3]
  refine va_sld (pc := 443) hx hb hX hbl hbA w.2.2.1 (vp_in_nI (show i + 3 < L by omega) (by omega)) dL_law_443 ?_
  rw [nI_clamp (show i + 3 < 2 ^ 31 by omega)]
  refine lv_aload_n (pc := 444) hx hb dL_law_444 rfl (lv_at hl 0 rfl) ?_
  refine lv_iload_n (pc := 445) hx hb dL_law_445 rfl (lv_at hl 3 rfl) ?_
  refine lv_iconst (pc := 446) (v := 4) hx hb dL_law_446 (by decide) ?_
  refine lv_iadd (pc := 447) hx hb dL_law_447 ?_
  rw [show nI i + (4 : Int32) = nI (i + 4) from nI_add i 4]
  refine va_sld (pc := 448) hx hb hX hbl hbA w.2.2.1 (vp_in_nI (show i + 4 < L by omega) (by omega)) dL_law_448 ?_
  rw [nI_clamp (show i + 4 < 2 ^ 31 by omega)]
  refine lv_aload_n (pc := 449) hx hb dL_law_449 rfl (lv_at hl 0 rfl) ?_
  refine lv_iload_n (pc := 450) hx hb dL_law_450 rfl (lv_at hl 3 rfl) ?_
  refine lv_iconst (pc := 451) (v := 5) hx hb dL_law_451 (by decide) ?_
  refine lv_iadd (pc := 452) hx hb dL_law_452 ?_
  rw [show nI i + (5 : Int32) = nI (i + 5) from nI_add i 5]
  refine va_sld (pc := 453) hx hb hX hbl hbA w.2.2.1 (vp_in_nI (show i + 5 < L by omega) (by omega)) dL_law_453 ?_
  rw [nI_clamp (show i + 5 < 2 ^ 31 by omega)]
  refine s_cvi (pc := 454) [.int (xs (i + 1)), .int (xs (i + 2)), .int (xs (i + 3)), .int (xs (i + 4)), .int (xs (i + 5))] (fun ad => [.ref (ad 61), .int (xs (i + 1)), .int (xs (i + 2)), .int (xs (i + 3)), .int (xs (i + 4)), .int (xs (i + 5))]) F w (m_Yard_wagon _ _ _ _ _ _ _ _ h1) rfl rfl hl.1 ds_61 vc_X11 rfl ok_X11_wagon rfl kc_X11_wagon kl_L_33 ki_X11_wagon kv_X11_wagon kn_X11 ⟨Nat.le_trans (by decide) hR1, Nat.le_trans (by decide) hR2⟩ hcs (Nat.le_of_ble_eq_true rfl) dL_law_454 (fun H locs w => ?_)
  refine lv_aload_n (pc := 457) hx hb dL_law_457 rfl (lv_at hl 2 rfl) ?_
  refine lv_aload_n (pc := 458) hx hb dL_law_458 rfl (lv_at hl 0 rfl) ?_
  refine lv_iload_n (pc := 459) hx hb dL_law_459 rfl (lv_at hl 3 rfl) ?_
  refine lv_iconst (pc := 460) (v := 1) hx hb dL_law_460 (by decide) ?_
  refine lv_iadd (pc := 461) hx hb dL_law_461 ?_
  rw [show nI i + (1 : Int32) = nI (i + 1) from nI_add i 1]
  refine va_sld (pc := 462) hx hb hX hbl hbA w.2.2.1 (vp_in_nI (show i + 1 < L by omega) (by omega)) dL_law_462 ?_
  rw [nI_clamp (show i + 1 < 2 ^ 31 by omega)]
  refine lv_aload_n (pc := 463) hx hb dL_law_463 rfl (lv_at hl 0 rfl) ?_
  refine lv_iload_n (pc := 464) hx hb dL_law_464 rfl (lv_at hl 3 rfl) ?_
  refine lv_iconst (pc := 465) (v := 2) hx hb dL_law_465 (by decide) ?_
  refine lv_iadd (pc := 466) hx hb dL_law_466 ?_
  rw [show nI i + (2 : Int32) = nI (i + 2) from nI_add i 2]
  refine va_sld (pc := 467) hx hb hX hbl hbA w.2.2.1 (vp_in_nI (show i + 2 < L by omega) (by omega)) dL_law_467 ?_
  rw [nI_clamp (show i + 2 < 2 ^ 31 by omega)]
  refine lv_aload_n (pc := 468) hx hb dL_law_468 rfl (lv_at hl 0 rfl) ?_
  refine lv_iload_n (pc := 469) hx hb dL_law_469 rfl (lv_at hl 3 rfl) ?_
  refine lv_iconst (pc := 470) (v := 3) hx hb dL_law_470 (by decide) ?_
  refine lv_iadd (pc := 471) hx hb dL_law_471 ?_
  rw [show nI i + (3 : Int32) = nI (i + 3) from nI_add i 3]
  refine va_sld (pc := 472) hx hb hX hbl hbA w.2.2.1 (vp_in_nI (show i + 3 < L by omega) (by omega)) dL_law_472 ?_
  rw [nI_clamp (show i + 3 < 2 ^ 31 by omega)]
  refine lv_aload_n (pc := 473) hx hb dL_law_473 rfl (lv_at hl 0 rfl) ?_
  refine lv_iload_n (pc := 474) hx hb dL_law_474 rfl (lv_at hl 3 rfl) ?_
  refine lv_iconst (pc := 475) (v := 4) hx hb dL_law_475 (by decide) ?_
  refine lv_iadd (pc := 476) hx hb dL_law_476 ?_
  rw [show nI i + (4 : Int32) = nI (i + 4) from nI_add i 4]
  refine va_sld (pc := 477) hx hb hX hbl hbA w.2.2.1 (vp_in_nI (show i + 4 < L by omega) (by omega)) dL_law_477 ?_
  rw [nI_clamp (show i + 4 < 2 ^ 31 by omega)]
  refine lv_aload_n (pc := 478) hx hb dL_law_478 rfl (lv_at hl 0 rfl) ?_
  refine lv_iload_n (pc := 479) hx hb dL_law_479 rfl (lv_at hl 3 rfl) ?_
  refine lv_iconst (pc := 480) (v := 5) hx hb dL_law_480 (by decide) ?_
  refine lv_iadd (pc := 481) hx hb dL_law_481 ?_
  rw [show nI i + (5 : Int32) = nI (i + 5) from nI_add i 5]
  refine va_sld (pc := 482) hx hb hX hbl hbA w.2.2.1 (vp_in_nI (show i + 5 < L by omega) (by omega)) dL_law_482 ?_
  rw [nI_clamp (show i + 5 < 2 ^ 31 by omega)]
  refine s_cvi (pc := 483) [.int (xs (i + 1)), .int (xs (i + 2)), .int (xs (i + 3)), .int (xs (i + 4)), .int (xs (i + 5))] (fun ad => [.ref (ad 0), .int (xs (i + 1)), .int (xs (i + 2)), .int (xs (i + 3)), .int (xs (i + 4)), .int (xs (i + 5))]) F w (m_M_wagon _ _ _ _ _ _ _ _ h2) rfl rfl hl.1 ds_0 vc_X12 rfl ok_X12_wagon rfl kc_X12_wagon kl_L_37 ki_X12_wagon kv_X12_wagon kn_X12 ⟨Nat.le_trans (by decide) hR1, Nat.le_trans (by decide) hR2⟩ hcs (Nat.le_of_ble_eq_true rfl) dL_law_483 (fun H locs w => ?_)
  refine lv_icmp_eq (pc := 486) (tgt := 1964) hx hb dL_law_486 (by decide) (fun q => ?_) (fun q => absurd hr q)
  exact kk H locs w
set_option maxRecDepth 100000 in
set_option maxHeartbeats 4000000 in
theorem lc_5 (F : Fx p s m args meth c cL_law 4 RL rt dC dI cs A) (hX : va_X b L xs s s.heap) (hbl : b < s.heap.size) (hbA : ¬ A b) (hR1 : 8 ≤ R.frames) (hR2 : 342 ≤ R.locals) (hcs : cells ≤ R.cells ∧ slots ≤ R.slots) {S S1 S2 : SS} {r1 r2 : Int32} (hi : i + 6 ≤ L) (hL : L ≤ 3072) (w : Wo dC dI cs ad A s.heap D0 S H locs) (hl : lv_has ls 4 [(0, .ref b), (1, .ref (ad 61)), (2, .ref (ad 0)), (3, .int (nI i))]) (h1 : f_Yard_engine ((if xs (i + 1) = 0 then (0 : Int32) else 1)) (xs (i + 2)) (xs (i + 3)) (xs (i + 4)) S = some (r1, S1)) (h2 : f_M_engine ((if xs (i + 1) = 0 then (0 : Int32) else 1)) (xs (i + 2)) (xs (i + 3)) (xs (i + 4)) S1 = some (r2, S2)) (hr : r1 = r2)
    (kk : ∀ (H : Heap) (locs : List Loc), Wo dC dI cs ad A s.heap D0 S2 H locs → W p l e R s m args below meth c H locs cells slots Q (F0 m 1964 ls [])) : W p l e R s m args below meth c H locs cells slots Q (F0 m 491 ls []) := by
  have hx := F.1.1
  have hb := F.1.2.1
  refine lv_aload_n (pc := 491) hx hb dL_law_491 rfl (lv_at hl 1 rfl) ?_
  refine lv_aload_n (pc := 492) hx hb dL_law_492 rfl (lv_at hl 0 rfl) ?_
  refine lv_iload_n (pc := 493) hx hb dL_law_493 rfl (lv_at hl 3 rfl) ?_
  refine lv_iconst (pc := 494) (v := 1) hx hb dL_law_494 (by decide) ?_
  refine lv_iadd (pc := 495) hx hb dL_law_495 ?_
  rw [show nI i + (1 : Int32) = nI (i + 1) from nI_add i 1]
  refine va_sld (pc := 496) hx hb hX hbl hbA w.2.2.1 (vp_in_nI (show i + 1 < L by omega) (by omega)) dL_law_496 ?_
  rw [nI_clamp (show i + 1 < 2 ^ 31 by omega)]
  suffices hj : W p l e R s m args below meth c H locs cells slots Q (F0 m 505 ls (.int (if xs (i + 1) = 0 then (0 : Int32) else 1) :: [.ref (ad 61)])) by
    refine lv_if_eq (pc := 497) (tgt := 504) hx hb dL_law_497 (by decide) (fun q => ?_) (fun q => ?_)
    · refine lv_iconst (pc := 504) (v := 0) hx hb dL_law_504 (by decide) ?_
      rw [if_pos q] at hj
      exact hj
    · refine lv_iconst (pc := 500) (v := 1) hx hb dL_law_500 (by decide) ?_
      refine lv_goto (pc := 501) (tgt := 505) hx hb dL_law_501 (by decide) ?_
      rw [if_neg q] at hj
      exact hj
  refine lv_aload_n (pc := 505) hx hb dL_law_505 rfl (lv_at hl 0 rfl) ?_
  refine lv_iload_n (pc := 506) hx hb dL_law_506 rfl (lv_at hl 3 rfl) ?_
  refine lv_iconst (pc := 507) (v := 2) hx hb dL_law_507 (by decide) ?_
  refine lv_iadd (pc := 508) hx hb dL_law_508 ?_
  rw [show nI i + (2 : Int32) = nI (i + 2) from nI_add i 2]
  refine va_sld (pc := 509) hx hb hX hbl hbA w.2.2.1 (vp_in_nI (show i + 2 < L by omega) (by omega)) dL_law_509 ?_
  rw [nI_clamp (show i + 2 < 2 ^ 31 by omega)]
  refine lv_aload_n (pc := 510) hx hb dL_law_510 rfl (lv_at hl 0 rfl) ?_
  refine lv_iload_n (pc := 511) hx hb dL_law_511 rfl (lv_at hl 3 rfl) ?_
  refine lv_iconst (pc := 512) (v := 3) hx hb dL_law_512 (by decide) ?_
  refine lv_iadd (pc := 513) hx hb dL_law_513 ?_
  rw [show nI i + (3 : Int32) = nI (i + 3) from nI_add i 3]
  refine va_sld (pc := 514) hx hb hX hbl hbA w.2.2.1 (vp_in_nI (show i + 3 < L by omega) (by omega)) dL_law_514 ?_
  rw [nI_clamp (show i + 3 < 2 ^ 31 by omega)]
  refine lv_aload_n (pc := 515) hx hb dL_law_515 rfl (lv_at hl 0 rfl) ?_
  refine lv_iload_n (pc := 516) hx hb dL_law_516 rfl (lv_at hl 3 rfl) ?_
  refine lv_iconst (pc := 517) (v := 4) hx hb dL_law_517 (by decide) ?_
  refine lv_iadd (pc := 518) hx hb dL_law_518 ?_
  rw [show nI i + (4 : Int32) = nI (i + 4) from nI_add i 4]
  refine va_sld (pc := 519) hx hb hX hbl hbA w.2.2.1 (vp_in_nI (show i + 4 < L by omega) (by omega)) dL_law_519 ?_
  rw [nI_clamp (show i + 4 < 2 ^ 31 by omega)]
  refine s_cvi (pc := 520) [.int ((if xs (i + 1) = 0 then (0 : Int32) else 1)), .int (xs (i + 2)), .int (xs (i + 3)), .int (xs (i + 4))] (fun ad => [.ref (ad 61), .int ((if xs (i + 1) = 0 then (0 : Int32) else 1)), .int (xs (i + 2)), .int (xs (i + 3)), .int (xs (i + 4))]) F w (m_Yard_engine _ _ _ _ _ _ _ h1) rfl rfl hl.1 ds_61 vc_X11 rfl ok_X11_engine rfl kc_X11_engine kl_L_38 ki_X11_engine kv_X11_engine kn_X11 ⟨Nat.le_trans (by decide) hR1, Nat.le_trans (by decide) hR2⟩ hcs (Nat.le_of_ble_eq_true rfl) dL_law_520 (fun H locs w => ?_)
  refine lv_aload_n (pc := 523) hx hb dL_law_523 rfl (lv_at hl 2 rfl) ?_
  refine lv_aload_n (pc := 524) hx hb dL_law_524 rfl (lv_at hl 0 rfl) ?_
  refine lv_iload_n (pc := 525) hx hb dL_law_525 rfl (lv_at hl 3 rfl) ?_
  refine lv_iconst (pc := 526) (v := 1) hx hb dL_law_526 (by decide) ?_
  refine lv_iadd (pc := 527) hx hb dL_law_527 ?_
  rw [show nI i + (1 : Int32) = nI (i + 1) from nI_add i 1]
  refine va_sld (pc := 528) hx hb hX hbl hbA w.2.2.1 (vp_in_nI (show i + 1 < L by omega) (by omega)) dL_law_528 ?_
  rw [nI_clamp (show i + 1 < 2 ^ 31 by omega)]
  suffices hj : W p l e R s m args below meth c H locs cells slots Q (F0 m 537 ls (.int (if xs (i + 1) = 0 then (0 : Int32) else 1) :: [.ref (ad 0), .int (r1)])) by
    refine lv_if_eq (pc := 529) (tgt := 536) hx hb dL_law_529 (by decide) (fun q => ?_) (fun q => ?_)
    · refine lv_iconst (pc := 536) (v := 0) hx hb dL_law_536 (by decide) ?_
      rw [if_pos q] at hj
      exact hj
    · refine lv_iconst (pc := 532) (v := 1) hx hb dL_law_532 (by decide) ?_
      refine lv_goto (pc := 533) (tgt := 537) hx hb dL_law_533 (by decide) ?_
      rw [if_neg q] at hj
      exact hj
  refine lv_aload_n (pc := 537) hx hb dL_law_537 rfl (lv_at hl 0 rfl) ?_
  refine lv_iload_n (pc := 538) hx hb dL_law_538 rfl (lv_at hl 3 rfl) ?_
  refine lv_iconst (pc := 539) (v := 2) hx hb dL_law_539 (by decide) ?_
  refine lv_iadd (pc := 540) hx hb dL_law_540 ?_
  rw [show nI i + (2 : Int32) = nI (i + 2) from nI_add i 2]
  refine va_sld (pc := 541) hx hb hX hbl hbA w.2.2.1 (vp_in_nI (show i + 2 < L by omega) (by omega)) dL_law_541 ?_
  rw [nI_clamp (show i + 2 < 2 ^ 31 by omega)]
  refine lv_aload_n (pc := 542) hx hb dL_law_542 rfl (lv_at hl 0 rfl) ?_
  refine lv_iload_n (pc := 543) hx hb dL_law_543 rfl (lv_at hl 3 rfl) ?_
  refine lv_iconst (pc := 544) (v := 3) hx hb dL_law_544 (by decide) ?_
  refine lv_iadd (pc := 545) hx hb dL_law_545 ?_
  rw [show nI i + (3 : Int32) = nI (i + 3) from nI_add i 3]
  refine va_sld (pc := 546) hx hb hX hbl hbA w.2.2.1 (vp_in_nI (show i + 3 < L by omega) (by omega)) dL_law_546 ?_
  rw [nI_clamp (show i + 3 < 2 ^ 31 by omega)]
  refine lv_aload_n (pc := 547) hx hb dL_law_547 rfl (lv_at hl 0 rfl) ?_
  refine lv_iload_n (pc := 548) hx hb dL_law_548 rfl (lv_at hl 3 rfl) ?_
  refine lv_iconst (pc := 549) (v := 4) hx hb dL_law_549 (by decide) ?_
  refine lv_iadd (pc := 550) hx hb dL_law_550 ?_
  rw [show nI i + (4 : Int32) = nI (i + 4) from nI_add i 4]
  refine va_sld (pc := 551) hx hb hX hbl hbA w.2.2.1 (vp_in_nI (show i + 4 < L by omega) (by omega)) dL_law_551 ?_
  rw [nI_clamp (show i + 4 < 2 ^ 31 by omega)]
  refine s_cvi (pc := 552) [.int ((if xs (i + 1) = 0 then (0 : Int32) else 1)), .int (xs (i + 2)), .int (xs (i + 3)), .int (xs (i + 4))] (fun ad => [.ref (ad 0), .int ((if xs (i + 1) = 0 then (0 : Int32) else 1)), .int (xs (i + 2)), .int (xs (i + 3)), .int (xs (i + 4))]) F w (m_M_engine _ _ _ _ _ _ _ h2) rfl rfl hl.1 ds_0 vc_X12 rfl ok_X12_engine rfl kc_X12_engine kl_L_42 ki_X12_engine kv_X12_engine kn_X12 ⟨Nat.le_trans (by decide) hR1, Nat.le_trans (by decide) hR2⟩ hcs (Nat.le_of_ble_eq_true rfl) dL_law_552 (fun H locs w => ?_)
  refine lv_icmp_eq (pc := 555) (tgt := 1964) hx hb dL_law_555 (by decide) (fun q => ?_) (fun q => absurd hr q)
  exact kk H locs w
end LWC

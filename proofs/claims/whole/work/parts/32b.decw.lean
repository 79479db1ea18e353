theorem kL_law_307 : decode mL_law.2.1 307 = .ok (.bipush 32, 2) := by decide +kernel
theorem kL_law_309 : decode mL_law.2.1 309 = .ok (.lshl, 1) := by decide +kernel
theorem kL_law_310 : decode mL_law.2.1 310 = .ok (.aload_n 0, 1) := by decide +kernel
theorem kL_law_311 : decode mL_law.2.1 311 = .ok (.iload 4, 2) := by decide +kernel
theorem kL_law_313 : decode mL_law.2.1 313 = .ok (.iconst 4, 1) := by decide +kernel
theorem kL_law_314 : decode mL_law.2.1 314 = .ok (.iadd, 1) := by decide +kernel
theorem kL_law_315 : decode mL_law.2.1 315 = .ok (.iaload, 1) := by decide +kernel
theorem kL_law_316 : decode mL_law.2.1 316 = .ok (.i2l, 1) := by decide +kernel
theorem kL_law_317 : decode mL_law.2.1 317 = .ok (.ldc2_w 87, 3) := by decide +kernel
theorem kL_law_320 : decode mL_law.2.1 320 = .ok (.land, 1) := by decide +kernel
theorem kL_law_321 : decode mL_law.2.1 321 = .ok (.lor, 1) := by decide +kernel
theorem kL_law_322 : decode mL_law.2.1 322 = .ok (.invokestatic 89, 3) := by decide +kernel
theorem kL_law_325 : decode mL_law.2.1 325 = .ok (.istore 5, 2) := by decide +kernel
theorem kL_law_327 : decode mL_law.2.1 327 = .ok (.aload_n 2, 1) := by decide +kernel
theorem kL_law_328 : decode mL_law.2.1 328 = .ok (.aload_n 0, 1) := by decide +kernel
theorem kL_law_329 : decode mL_law.2.1 329 = .ok (.iload 4, 2) := by decide +kernel
theorem kL_law_331 : decode mL_law.2.1 331 = .ok (.iconst 1, 1) := by decide +kernel
theorem kL_law_332 : decode mL_law.2.1 332 = .ok (.iadd, 1) := by decide +kernel
theorem kL_law_333 : decode mL_law.2.1 333 = .ok (.iaload, 1) := by decide +kernel
theorem kL_law_334 : decode mL_law.2.1 334 = .ok (.aload_n 0, 1) := by decide +kernel
theorem kL_law_335 : decode mL_law.2.1 335 = .ok (.iload 4, 2) := by decide +kernel
theorem kL_law_337 : decode mL_law.2.1 337 = .ok (.iconst 2, 1) := by decide +kernel
theorem kL_law_338 : decode mL_law.2.1 338 = .ok (.iadd, 1) := by decide +kernel
theorem kL_law_339 : decode mL_law.2.1 339 = .ok (.iaload, 1) := by decide +kernel
theorem kL_law_340 : decode mL_law.2.1 340 = .ok (.aload_n 0, 1) := by decide +kernel
theorem kL_law_341 : decode mL_law.2.1 341 = .ok (.iload 4, 2) := by decide +kernel
theorem kL_law_343 : decode mL_law.2.1 343 = .ok (.iconst 3, 1) := by decide +kernel
theorem kL_law_344 : decode mL_law.2.1 344 = .ok (.iadd, 1) := by decide +kernel
theorem kL_law_345 : decode mL_law.2.1 345 = .ok (.iaload, 1) := by decide +kernel
theorem kL_law_346 : decode mL_law.2.1 346 = .ok (.i2l, 1) := by decide +kernel
theorem kL_law_347 : decode mL_law.2.1 347 = .ok (.bipush 32, 2) := by decide +kernel
theorem kL_law_349 : decode mL_law.2.1 349 = .ok (.lshl, 1) := by decide +kernel
theorem kL_law_350 : decode mL_law.2.1 350 = .ok (.aload_n 0, 1) := by decide +kernel
theorem kL_law_351 : decode mL_law.2.1 351 = .ok (.iload 4, 2) := by decide +kernel
theorem kL_law_353 : decode mL_law.2.1 353 = .ok (.iconst 4, 1) := by decide +kernel
theorem kL_law_354 : decode mL_law.2.1 354 = .ok (.iadd, 1) := by decide +kernel
theorem kL_law_355 : decode mL_law.2.1 355 = .ok (.iaload, 1) := by decide +kernel
theorem kL_law_356 : decode mL_law.2.1 356 = .ok (.i2l, 1) := by decide +kernel
theorem kL_law_357 : decode mL_law.2.1 357 = .ok (.ldc2_w 87, 3) := by decide +kernel
theorem kL_law_360 : decode mL_law.2.1 360 = .ok (.land, 1) := by decide +kernel
theorem kL_law_361 : decode mL_law.2.1 361 = .ok (.lor, 1) := by decide +kernel
theorem kL_law_362 : decode mL_law.2.1 362 = .ok (.invokevirtual 92, 3) := by decide +kernel
theorem kL_law_365 : decode mL_law.2.1 365 = .ok (.aload_n 2, 1) := by decide +kernel
theorem kL_law_366 : decode mL_law.2.1 366 = .ok (.invokevirtual 76, 3) := by decide +kernel
theorem kL_law_369 : decode mL_law.2.1 369 = .ok (.iload 5, 2) := by decide +kernel
theorem kL_law_371 : decode mL_law.2.1 371 = .ok (.if_icmp .eq 5, 3) := by decide +kernel
theorem kL_law_374 : decode mL_law.2.1 374 = .ok (.iconst 0, 1) := by decide +kernel
theorem kL_law_375 : decode mL_law.2.1 375 = .ok (.ireturn, 1) := by decide +kernel
theorem kL_law_376 : decode mL_law.2.1 376 = .ok (.goto 601, 3) := by decide +kernel
theorem kL_law_379 : decode mL_law.2.1 379 = .ok (.aload_n 1, 1) := by decide +kernel
theorem kL_law_380 : decode mL_law.2.1 380 = .ok (.aload_n 0, 1) := by decide +kernel
theorem kL_law_381 : decode mL_law.2.1 381 = .ok (.iload 4, 2) := by decide +kernel
theorem kL_law_383 : decode mL_law.2.1 383 = .ok (.iconst 1, 1) := by decide +kernel
theorem kL_law_384 : decode mL_law.2.1 384 = .ok (.iadd, 1) := by decide +kernel
theorem kL_law_385 : decode mL_law.2.1 385 = .ok (.iaload, 1) := by decide +kernel
theorem kL_law_386 : decode mL_law.2.1 386 = .ok (.aload_n 0, 1) := by decide +kernel
theorem kL_law_387 : decode mL_law.2.1 387 = .ok (.iload 4, 2) := by decide +kernel
theorem kL_law_389 : decode mL_law.2.1 389 = .ok (.iconst 2, 1) := by decide +kernel
theorem kL_law_390 : decode mL_law.2.1 390 = .ok (.iadd, 1) := by decide +kernel
theorem kL_law_391 : decode mL_law.2.1 391 = .ok (.iaload, 1) := by decide +kernel
theorem kL_law_392 : decode mL_law.2.1 392 = .ok (.invokestatic 93, 3) := by decide +kernel
theorem kL_law_395 : decode mL_law.2.1 395 = .ok (.istore 5, 2) := by decide +kernel
theorem kL_law_397 : decode mL_law.2.1 397 = .ok (.aload_n 2, 1) := by decide +kernel
theorem kL_law_398 : decode mL_law.2.1 398 = .ok (.aload_n 0, 1) := by decide +kernel
theorem kL_law_399 : decode mL_law.2.1 399 = .ok (.iload 4, 2) := by decide +kernel
theorem kL_law_401 : decode mL_law.2.1 401 = .ok (.iconst 1, 1) := by decide +kernel
theorem kL_law_402 : decode mL_law.2.1 402 = .ok (.iadd, 1) := by decide +kernel
theorem kL_law_403 : decode mL_law.2.1 403 = .ok (.iaload, 1) := by decide +kernel
theorem kL_law_404 : decode mL_law.2.1 404 = .ok (.aload_n 0, 1) := by decide +kernel
theorem kL_law_405 : decode mL_law.2.1 405 = .ok (.iload 4, 2) := by decide +kernel
theorem kL_law_407 : decode mL_law.2.1 407 = .ok (.iconst 2, 1) := by decide +kernel
theorem kL_law_408 : decode mL_law.2.1 408 = .ok (.iadd, 1) := by decide +kernel
theorem kL_law_409 : decode mL_law.2.1 409 = .ok (.iaload, 1) := by decide +kernel
theorem kL_law_410 : decode mL_law.2.1 410 = .ok (.invokevirtual 96, 3) := by decide +kernel
theorem kL_law_413 : decode mL_law.2.1 413 = .ok (.aload_n 2, 1) := by decide +kernel
theorem kL_law_414 : decode mL_law.2.1 414 = .ok (.invokevirtual 76, 3) := by decide +kernel
theorem kL_law_417 : decode mL_law.2.1 417 = .ok (.iload 5, 2) := by decide +kernel
theorem kL_law_419 : decode mL_law.2.1 419 = .ok (.if_icmp .eq 5, 3) := by decide +kernel
theorem kL_law_422 : decode mL_law.2.1 422 = .ok (.iconst 0, 1) := by decide +kernel
theorem kL_law_423 : decode mL_law.2.1 423 = .ok (.ireturn, 1) := by decide +kernel
theorem kL_law_424 : decode mL_law.2.1 424 = .ok (.goto 553, 3) := by decide +kernel
theorem kL_law_427 : decode mL_law.2.1 427 = .ok (.aload_n 1, 1) := by decide +kernel
theorem kL_law_428 : decode mL_law.2.1 428 = .ok (.aload_n 0, 1) := by decide +kernel
theorem kL_law_429 : decode mL_law.2.1 429 = .ok (.iload 4, 2) := by decide +kernel
theorem kL_law_431 : decode mL_law.2.1 431 = .ok (.iconst 1, 1) := by decide +kernel
theorem kL_law_432 : decode mL_law.2.1 432 = .ok (.iadd, 1) := by decide +kernel
theorem kL_law_433 : decode mL_law.2.1 433 = .ok (.iaload, 1) := by decide +kernel
theorem kL_law_434 : decode mL_law.2.1 434 = .ok (.aload_n 3, 1) := by decide +kernel
theorem kL_law_435 : decode mL_law.2.1 435 = .ok (.invokestatic 97, 3) := by decide +kernel
theorem kL_law_438 : decode mL_law.2.1 438 = .ok (.istore 5, 2) := by decide +kernel
theorem kL_law_440 : decode mL_law.2.1 440 = .ok (.aload_n 2, 1) := by decide +kernel
theorem kL_law_441 : decode mL_law.2.1 441 = .ok (.aload_n 0, 1) := by decide +kernel
theorem kL_law_442 : decode mL_law.2.1 442 = .ok (.iload 4, 2) := by decide +kernel
theorem kL_law_444 : decode mL_law.2.1 444 = .ok (.iconst 1, 1) := by decide +kernel
theorem kL_law_445 : decode mL_law.2.1 445 = .ok (.iadd, 1) := by decide +kernel
theorem kL_law_446 : decode mL_law.2.1 446 = .ok (.iaload, 1) := by decide +kernel
theorem kL_law_447 : decode mL_law.2.1 447 = .ok (.invokevirtual 99, 3) := by decide +kernel
theorem kL_law_450 : decode mL_law.2.1 450 = .ok (.istore 6, 2) := by decide +kernel
theorem kL_law_452 : decode mL_law.2.1 452 = .ok (.aload_n 2, 1) := by decide +kernel
theorem kL_law_453 : decode mL_law.2.1 453 = .ok (.invokevirtual 76, 3) := by decide +kernel
theorem kL_law_456 : decode mL_law.2.1 456 = .ok (.iload 5, 2) := by decide +kernel
theorem kL_law_458 : decode mL_law.2.1 458 = .ok (.if_icmp .eq 5, 3) := by decide +kernel
theorem kL_law_461 : decode mL_law.2.1 461 = .ok (.iconst 0, 1) := by decide +kernel
theorem kL_law_462 : decode mL_law.2.1 462 = .ok (.ireturn, 1) := by decide +kernel
theorem kL_law_463 : decode mL_law.2.1 463 = .ok (.iload 5, 2) := by decide +kernel
theorem kL_law_465 : decode mL_law.2.1 465 = .ok (.ifCond .ne 15, 3) := by decide +kernel
theorem kL_law_468 : decode mL_law.2.1 468 = .ok (.aload_n 3, 1) := by decide +kernel
theorem kL_law_469 : decode mL_law.2.1 469 = .ok (.iconst 0, 1) := by decide +kernel
theorem kL_law_470 : decode mL_law.2.1 470 = .ok (.laload, 1) := by decide +kernel
theorem kL_law_471 : decode mL_law.2.1 471 = .ok (.iload 6, 2) := by decide +kernel
theorem kL_law_473 : decode mL_law.2.1 473 = .ok (.i2l, 1) := by decide +kernel
theorem kL_law_474 : decode mL_law.2.1 474 = .ok (.lcmp, 1) := by decide +kernel
theorem kL_law_475 : decode mL_law.2.1 475 = .ok (.ifCond .eq 5, 3) := by decide +kernel
theorem kL_law_478 : decode mL_law.2.1 478 = .ok (.iconst 0, 1) := by decide +kernel
theorem kL_law_479 : decode mL_law.2.1 479 = .ok (.ireturn, 1) := by decide +kernel
theorem kL_law_480 : decode mL_law.2.1 480 = .ok (.goto 497, 3) := by decide +kernel
theorem kL_law_483 : decode mL_law.2.1 483 = .ok (.aload_n 1, 1) := by decide +kernel
theorem kL_law_484 : decode mL_law.2.1 484 = .ok (.aload_n 0, 1) := by decide +kernel
theorem kL_law_485 : decode mL_law.2.1 485 = .ok (.iload 4, 2) := by decide +kernel
theorem kL_law_487 : decode mL_law.2.1 487 = .ok (.iconst 1, 1) := by decide +kernel
theorem kL_law_488 : decode mL_law.2.1 488 = .ok (.iadd, 1) := by decide +kernel
theorem kL_law_489 : decode mL_law.2.1 489 = .ok (.iaload, 1) := by decide +kernel
theorem kL_law_490 : decode mL_law.2.1 490 = .ok (.aload_n 0, 1) := by decide +kernel
theorem kL_law_491 : decode mL_law.2.1 491 = .ok (.iload 4, 2) := by decide +kernel
theorem kL_law_493 : decode mL_law.2.1 493 = .ok (.iconst 2, 1) := by decide +kernel
theorem kL_law_494 : decode mL_law.2.1 494 = .ok (.iadd, 1) := by decide +kernel
theorem kL_law_495 : decode mL_law.2.1 495 = .ok (.iaload, 1) := by decide +kernel
theorem kL_law_496 : decode mL_law.2.1 496 = .ok (.invokestatic 100, 3) := by decide +kernel
theorem kL_law_499 : decode mL_law.2.1 499 = .ok (.istore 5, 2) := by decide +kernel
theorem kL_law_501 : decode mL_law.2.1 501 = .ok (.aload_n 2, 1) := by decide +kernel
theorem kL_law_502 : decode mL_law.2.1 502 = .ok (.aload_n 0, 1) := by decide +kernel
theorem kL_law_503 : decode mL_law.2.1 503 = .ok (.iload 4, 2) := by decide +kernel
theorem kL_law_505 : decode mL_law.2.1 505 = .ok (.iconst 1, 1) := by decide +kernel
theorem kL_law_506 : decode mL_law.2.1 506 = .ok (.iadd, 1) := by decide +kernel
theorem kL_law_507 : decode mL_law.2.1 507 = .ok (.iaload, 1) := by decide +kernel
theorem kL_law_508 : decode mL_law.2.1 508 = .ok (.aload_n 0, 1) := by decide +kernel
theorem kL_law_509 : decode mL_law.2.1 509 = .ok (.iload 4, 2) := by decide +kernel
theorem kL_law_511 : decode mL_law.2.1 511 = .ok (.iconst 2, 1) := by decide +kernel
theorem kL_law_512 : decode mL_law.2.1 512 = .ok (.iadd, 1) := by decide +kernel
theorem kL_law_513 : decode mL_law.2.1 513 = .ok (.iaload, 1) := by decide +kernel
theorem kL_law_514 : decode mL_law.2.1 514 = .ok (.invokevirtual 102, 3) := by decide +kernel
theorem kL_law_517 : decode mL_law.2.1 517 = .ok (.aload_n 2, 1) := by decide +kernel
theorem kL_law_518 : decode mL_law.2.1 518 = .ok (.invokevirtual 76, 3) := by decide +kernel
theorem kL_law_521 : decode mL_law.2.1 521 = .ok (.iload 5, 2) := by decide +kernel
theorem kL_law_523 : decode mL_law.2.1 523 = .ok (.if_icmp .eq 5, 3) := by decide +kernel

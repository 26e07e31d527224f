theorem dL_areCounts_248 : decode cL_areCounts 248 = .ok (.iadd, 1) := by decide +kernel
theorem dL_areCounts_249 : decode cL_areCounts 249 = .ok (.iaload, 1) := by decide +kernel
theorem dL_areCounts_250 : decode cL_areCounts 250 = .ok (.iload 14, 2) := by decide +kernel
theorem dL_areCounts_252 : decode cL_areCounts 252 = .ok (.if_icmp .le 8, 3) := by decide +kernel
theorem dL_areCounts_255 : decode cL_areCounts 255 = .ok (.iload 20, 2) := by decide +kernel
theorem dL_areCounts_257 : decode cL_areCounts 257 = .ok (.goto 4, 3) := by decide +kernel
theorem dL_areCounts_260 : decode cL_areCounts 260 = .ok (.iconst 0, 1) := by decide +kernel
theorem dL_areCounts_261 : decode cL_areCounts 261 = .ok (.iadd, 1) := by decide +kernel
theorem dL_areCounts_262 : decode cL_areCounts 262 = .ok (.istore 15, 2) := by decide +kernel
theorem dL_areCounts_264 : decode cL_areCounts 264 = .ok (.iload 17, 2) := by decide +kernel
theorem dL_areCounts_266 : decode cL_areCounts 266 = .ok (.aload_n 3, 1) := by decide +kernel
theorem dL_areCounts_267 : decode cL_areCounts 267 = .ok (.iload 19, 2) := by decide +kernel
theorem dL_areCounts_269 : decode cL_areCounts 269 = .ok (.iaload, 1) := by decide +kernel
theorem dL_areCounts_270 : decode cL_areCounts 270 = .ok (.invokestatic 10, 3) := by decide +kernel
theorem dL_areCounts_273 : decode cL_areCounts 273 = .ok (.iload 16, 2) := by decide +kernel
theorem dL_areCounts_275 : decode cL_areCounts 275 = .ok (.if_icmp .ne 8, 3) := by decide +kernel
theorem dL_areCounts_278 : decode cL_areCounts 278 = .ok (.iload 20, 2) := by decide +kernel
theorem dL_areCounts_280 : decode cL_areCounts 280 = .ok (.goto 4, 3) := by decide +kernel
theorem dL_areCounts_283 : decode cL_areCounts 283 = .ok (.iconst 0, 1) := by decide +kernel
theorem dL_areCounts_284 : decode cL_areCounts 284 = .ok (.iadd, 1) := by decide +kernel
theorem dL_areCounts_285 : decode cL_areCounts 285 = .ok (.istore 17, 2) := by decide +kernel
theorem dL_areCounts_287 : decode cL_areCounts 287 = .ok (.iload 18, 2) := by decide +kernel
theorem dL_areCounts_289 : decode cL_areCounts 289 = .ok (.aload_n 3, 1) := by decide +kernel
theorem dL_areCounts_290 : decode cL_areCounts 290 = .ok (.iload 19, 2) := by decide +kernel
theorem dL_areCounts_292 : decode cL_areCounts 292 = .ok (.iaload, 1) := by decide +kernel
theorem dL_areCounts_293 : decode cL_areCounts 293 = .ok (.invokestatic 10, 3) := by decide +kernel
theorem dL_areCounts_296 : decode cL_areCounts 296 = .ok (.iload 16, 2) := by decide +kernel
theorem dL_areCounts_298 : decode cL_areCounts 298 = .ok (.if_icmp .ne 16, 3) := by decide +kernel
theorem dL_areCounts_301 : decode cL_areCounts 301 = .ok (.aload 4, 2) := by decide +kernel
theorem dL_areCounts_303 : decode cL_areCounts 303 = .ok (.iload 19, 2) := by decide +kernel
theorem dL_areCounts_305 : decode cL_areCounts 305 = .ok (.iaload, 1) := by decide +kernel
theorem dL_areCounts_306 : decode cL_areCounts 306 = .ok (.ifCond .ge 8, 3) := by decide +kernel
theorem dL_areCounts_309 : decode cL_areCounts 309 = .ok (.iload 20, 2) := by decide +kernel
theorem dL_areCounts_311 : decode cL_areCounts 311 = .ok (.goto 4, 3) := by decide +kernel
theorem dL_areCounts_314 : decode cL_areCounts 314 = .ok (.iconst 0, 1) := by decide +kernel
theorem dL_areCounts_315 : decode cL_areCounts 315 = .ok (.iadd, 1) := by decide +kernel
theorem dL_areCounts_316 : decode cL_areCounts 316 = .ok (.istore 18, 2) := by decide +kernel
theorem dL_areCounts_318 : decode cL_areCounts 318 = .ok (.aload 4, 2) := by decide +kernel
theorem dL_areCounts_320 : decode cL_areCounts 320 = .ok (.iload 19, 2) := by decide +kernel
theorem dL_areCounts_322 : decode cL_areCounts 322 = .ok (.iaload, 1) := by decide +kernel
theorem dL_areCounts_323 : decode cL_areCounts 323 = .ok (.ifCond .ge 8, 3) := by decide +kernel
theorem dL_areCounts_326 : decode cL_areCounts 326 = .ok (.bipush (-106), 2) := by decide +kernel
theorem dL_areCounts_328 : decode cL_areCounts 328 = .ok (.goto 22, 3) := by decide +kernel
theorem dL_areCounts_331 : decode cL_areCounts 331 = .ok (.aload 4, 2) := by decide +kernel
theorem dL_areCounts_333 : decode cL_areCounts 333 = .ok (.iload 19, 2) := by decide +kernel
theorem dL_areCounts_335 : decode cL_areCounts 335 = .ok (.iaload, 1) := by decide +kernel
theorem dL_areCounts_336 : decode cL_areCounts 336 = .ok (.aload_n 3, 1) := by decide +kernel
theorem dL_areCounts_337 : decode cL_areCounts 337 = .ok (.iload 19, 2) := by decide +kernel
theorem dL_areCounts_339 : decode cL_areCounts 339 = .ok (.iaload, 1) := by decide +kernel
theorem dL_areCounts_340 : decode cL_areCounts 340 = .ok (.invokestatic 29, 3) := by decide +kernel
theorem dL_areCounts_343 : decode cL_areCounts 343 = .ok (.aload_n 2, 1) := by decide +kernel
theorem dL_areCounts_344 : decode cL_areCounts 344 = .ok (.aload_n 3, 1) := by decide +kernel
theorem dL_areCounts_345 : decode cL_areCounts 345 = .ok (.aload 4, 2) := by decide +kernel
theorem dL_areCounts_347 : decode cL_areCounts 347 = .ok (.invokestatic 45, 3) := by decide +kernel
theorem dL_areCounts_350 : decode cL_areCounts 350 = .ok (.istore 22, 2) := by decide +kernel
theorem dL_areCounts_352 : decode cL_areCounts 352 = .ok (.iload 22, 2) := by decide +kernel
theorem dL_areCounts_354 : decode cL_areCounts 354 = .ok (.iload 13, 2) := by decide +kernel
theorem dL_areCounts_356 : decode cL_areCounts 356 = .ok (.if_icmp .le 8, 3) := by decide +kernel
theorem dL_areCounts_359 : decode cL_areCounts 359 = .ok (.iload 22, 2) := by decide +kernel
theorem dL_areCounts_361 : decode cL_areCounts 361 = .ok (.goto 5, 3) := by decide +kernel
theorem dL_areCounts_364 : decode cL_areCounts 364 = .ok (.iload 13, 2) := by decide +kernel
theorem dL_areCounts_366 : decode cL_areCounts 366 = .ok (.istore 13, 2) := by decide +kernel
theorem dL_areCounts_368 : decode cL_areCounts 368 = .ok (.iinc 19 1, 3) := by decide +kernel
theorem dL_areCounts_371 : decode cL_areCounts 371 = .ok (.goto (-314), 3) := by decide +kernel
theorem dL_areCounts_374 : decode cL_areCounts 374 = .ok (.bipush (-106), 2) := by decide +kernel
theorem dL_areCounts_376 : decode cL_areCounts 376 = .ok (.istore 19, 2) := by decide +kernel
theorem dL_areCounts_378 : decode cL_areCounts 378 = .ok (.iconst 0, 1) := by decide +kernel
theorem dL_areCounts_379 : decode cL_areCounts 379 = .ok (.istore 20, 2) := by decide +kernel
theorem dL_areCounts_381 : decode cL_areCounts 381 = .ok (.iload 20, 2) := by decide +kernel
theorem dL_areCounts_383 : decode cL_areCounts 383 = .ok (.bipush 8, 2) := by decide +kernel
theorem dL_areCounts_385 : decode cL_areCounts 385 = .ok (.if_icmp .ge 79, 3) := by decide +kernel
theorem dL_areCounts_388 : decode cL_areCounts 388 = .ok (.iload 11, 2) := by decide +kernel
theorem dL_areCounts_390 : decode cL_areCounts 390 = .ok (.aload 5, 2) := by decide +kernel
theorem dL_areCounts_392 : decode cL_areCounts 392 = .ok (.iload 20, 2) := by decide +kernel
theorem dL_areCounts_394 : decode cL_areCounts 394 = .ok (.iaload, 1) := by decide +kernel
theorem dL_areCounts_395 : decode cL_areCounts 395 = .ok (.ifCond .le 7, 3) := by decide +kernel
theorem dL_areCounts_398 : decode cL_areCounts 398 = .ok (.iconst 1, 1) := by decide +kernel
theorem dL_areCounts_399 : decode cL_areCounts 399 = .ok (.goto 4, 3) := by decide +kernel
theorem dL_areCounts_402 : decode cL_areCounts 402 = .ok (.iconst 0, 1) := by decide +kernel
theorem dL_areCounts_403 : decode cL_areCounts 403 = .ok (.iadd, 1) := by decide +kernel
theorem dL_areCounts_404 : decode cL_areCounts 404 = .ok (.istore 11, 2) := by decide +kernel
theorem dL_areCounts_406 : decode cL_areCounts 406 = .ok (.iload 12, 2) := by decide +kernel
theorem dL_areCounts_408 : decode cL_areCounts 408 = .ok (.iload 20, 2) := by decide +kernel
theorem dL_areCounts_410 : decode cL_areCounts 410 = .ok (.sipush 1000, 3) := by decide +kernel
theorem dL_areCounts_413 : decode cL_areCounts 413 = .ok (.aload_n 2, 1) := by decide +kernel
theorem dL_areCounts_414 : decode cL_areCounts 414 = .ok (.aload_n 3, 1) := by decide +kernel
theorem dL_areCounts_415 : decode cL_areCounts 415 = .ok (.aload 4, 2) := by decide +kernel
theorem dL_areCounts_417 : decode cL_areCounts 417 = .ok (.invokestatic 35, 3) := by decide +kernel
theorem dL_areCounts_420 : decode cL_areCounts 420 = .ok (.iadd, 1) := by decide +kernel
theorem dL_areCounts_421 : decode cL_areCounts 421 = .ok (.istore 12, 2) := by decide +kernel
theorem dL_areCounts_423 : decode cL_areCounts 423 = .ok (.aload 5, 2) := by decide +kernel
theorem dL_areCounts_425 : decode cL_areCounts 425 = .ok (.iload 20, 2) := by decide +kernel
theorem dL_areCounts_427 : decode cL_areCounts 427 = .ok (.iaload, 1) := by decide +kernel
theorem dL_areCounts_428 : decode cL_areCounts 428 = .ok (.ifCond .le 26, 3) := by decide +kernel
theorem dL_areCounts_431 : decode cL_areCounts 431 = .ok (.iload 19, 2) := by decide +kernel
theorem dL_areCounts_433 : decode cL_areCounts 433 = .ok (.ifCond .lt 16, 3) := by decide +kernel
theorem dL_areCounts_436 : decode cL_areCounts 436 = .ok (.aload 5, 2) := by decide +kernel
theorem dL_areCounts_438 : decode cL_areCounts 438 = .ok (.iload 20, 2) := by decide +kernel
theorem dL_areCounts_440 : decode cL_areCounts 440 = .ok (.iaload, 1) := by decide +kernel
theorem dL_areCounts_441 : decode cL_areCounts 441 = .ok (.aload 5, 2) := by decide +kernel
theorem dL_areCounts_443 : decode cL_areCounts 443 = .ok (.iload 19, 2) := by decide +kernel
theorem dL_areCounts_445 : decode cL_areCounts 445 = .ok (.iaload, 1) := by decide +kernel
theorem dL_areCounts_446 : decode cL_areCounts 446 = .ok (.if_icmp .le 8, 3) := by decide +kernel
theorem dL_areCounts_449 : decode cL_areCounts 449 = .ok (.iload 20, 2) := by decide +kernel
theorem dL_areCounts_451 : decode cL_areCounts 451 = .ok (.goto 5, 3) := by decide +kernel
theorem dL_areCounts_454 : decode cL_areCounts 454 = .ok (.iload 19, 2) := by decide +kernel
theorem dL_areCounts_456 : decode cL_areCounts 456 = .ok (.istore 19, 2) := by decide +kernel
theorem dL_areCounts_458 : decode cL_areCounts 458 = .ok (.iinc 20 1, 3) := by decide +kernel
theorem dL_areCounts_461 : decode cL_areCounts 461 = .ok (.goto (-80), 3) := by decide +kernel
theorem dL_areCounts_464 : decode cL_areCounts 464 = .ok (.iconst 0, 1) := by decide +kernel
theorem dL_areCounts_465 : decode cL_areCounts 465 = .ok (.istore 20, 2) := by decide +kernel
theorem dL_areCounts_467 : decode cL_areCounts 467 = .ok (.iload 20, 2) := by decide +kernel
theorem dL_areCounts_469 : decode cL_areCounts 469 = .ok (.bipush 6, 2) := by decide +kernel
theorem dL_areCounts_471 : decode cL_areCounts 471 = .ok (.if_icmp .ge 24, 3) := by decide +kernel
theorem dL_areCounts_474 : decode cL_areCounts 474 = .ok (.aload_n 0, 1) := by decide +kernel
theorem dL_areCounts_475 : decode cL_areCounts 475 = .ok (.iload 20, 2) := by decide +kernel
theorem dL_areCounts_477 : decode cL_areCounts 477 = .ok (.invokevirtual 62, 3) := by decide +kernel
theorem dL_areCounts_480 : decode cL_areCounts 480 = .ok (.aload_n 2, 1) := by decide +kernel
theorem dL_areCounts_481 : decode cL_areCounts 481 = .ok (.iload 20, 2) := by decide +kernel
theorem dL_areCounts_483 : decode cL_areCounts 483 = .ok (.iaload, 1) := by decide +kernel
theorem dL_areCounts_484 : decode cL_areCounts 484 = .ok (.if_icmp .eq 5, 3) := by decide +kernel
theorem dL_areCounts_487 : decode cL_areCounts 487 = .ok (.iconst 0, 1) := by decide +kernel
theorem dL_areCounts_488 : decode cL_areCounts 488 = .ok (.ireturn, 1) := by decide +kernel
theorem dL_areCounts_489 : decode cL_areCounts 489 = .ok (.iinc 20 1, 3) := by decide +kernel
theorem dL_areCounts_492 : decode cL_areCounts 492 = .ok (.goto (-25), 3) := by decide +kernel
theorem dL_areCounts_495 : decode cL_areCounts 495 = .ok (.aload_n 0, 1) := by decide +kernel
theorem dL_areCounts_496 : decode cL_areCounts 496 = .ok (.bipush 6, 2) := by decide +kernel
theorem dL_areCounts_498 : decode cL_areCounts 498 = .ok (.invokevirtual 62, 3) := by decide +kernel
theorem dL_areCounts_501 : decode cL_areCounts 501 = .ok (.iload 6, 2) := by decide +kernel
theorem dL_areCounts_503 : decode cL_areCounts 503 = .ok (.if_icmp .ne 122, 3) := by decide +kernel
theorem dL_areCounts_506 : decode cL_areCounts 506 = .ok (.aload_n 0, 1) := by decide +kernel
theorem dL_areCounts_507 : decode cL_areCounts 507 = .ok (.bipush 7, 2) := by decide +kernel
theorem dL_areCounts_509 : decode cL_areCounts 509 = .ok (.invokevirtual 62, 3) := by decide +kernel
theorem dL_areCounts_512 : decode cL_areCounts 512 = .ok (.iload 7, 2) := by decide +kernel
theorem dL_areCounts_514 : decode cL_areCounts 514 = .ok (.if_icmp .ne 111, 3) := by decide +kernel
theorem dL_areCounts_517 : decode cL_areCounts 517 = .ok (.aload_n 0, 1) := by decide +kernel
theorem dL_areCounts_518 : decode cL_areCounts 518 = .ok (.bipush 8, 2) := by decide +kernel
theorem dL_areCounts_520 : decode cL_areCounts 520 = .ok (.invokevirtual 62, 3) := by decide +kernel
theorem dL_areCounts_523 : decode cL_areCounts 523 = .ok (.iload 8, 2) := by decide +kernel
theorem dL_areCounts_525 : decode cL_areCounts 525 = .ok (.if_icmp .ne 100, 3) := by decide +kernel
theorem dL_areCounts_528 : decode cL_areCounts 528 = .ok (.aload_n 0, 1) := by decide +kernel
theorem dL_areCounts_529 : decode cL_areCounts 529 = .ok (.bipush 9, 2) := by decide +kernel
theorem dL_areCounts_531 : decode cL_areCounts 531 = .ok (.invokevirtual 62, 3) := by decide +kernel
theorem dL_areCounts_534 : decode cL_areCounts 534 = .ok (.iload 9, 2) := by decide +kernel
theorem dL_areCounts_536 : decode cL_areCounts 536 = .ok (.if_icmp .ne 89, 3) := by decide +kernel
theorem dL_areCounts_539 : decode cL_areCounts 539 = .ok (.aload_n 0, 1) := by decide +kernel
theorem dL_areCounts_540 : decode cL_areCounts 540 = .ok (.bipush 10, 2) := by decide +kernel
theorem dL_areCounts_542 : decode cL_areCounts 542 = .ok (.invokevirtual 62, 3) := by decide +kernel
theorem dL_areCounts_545 : decode cL_areCounts 545 = .ok (.iload 10, 2) := by decide +kernel
theorem dL_areCounts_547 : decode cL_areCounts 547 = .ok (.if_icmp .ne 78, 3) := by decide +kernel
theorem dL_areCounts_550 : decode cL_areCounts 550 = .ok (.aload_n 0, 1) := by decide +kernel
theorem dL_areCounts_551 : decode cL_areCounts 551 = .ok (.bipush 11, 2) := by decide +kernel
theorem dL_areCounts_553 : decode cL_areCounts 553 = .ok (.invokevirtual 62, 3) := by decide +kernel
theorem dL_areCounts_556 : decode cL_areCounts 556 = .ok (.iload 11, 2) := by decide +kernel
theorem dL_areCounts_558 : decode cL_areCounts 558 = .ok (.if_icmp .ne 67, 3) := by decide +kernel
theorem dL_areCounts_561 : decode cL_areCounts 561 = .ok (.aload_n 0, 1) := by decide +kernel
theorem dL_areCounts_562 : decode cL_areCounts 562 = .ok (.bipush 12, 2) := by decide +kernel
theorem dL_areCounts_564 : decode cL_areCounts 564 = .ok (.invokevirtual 62, 3) := by decide +kernel
theorem dL_areCounts_567 : decode cL_areCounts 567 = .ok (.iload 12, 2) := by decide +kernel
theorem dL_areCounts_569 : decode cL_areCounts 569 = .ok (.if_icmp .ne 56, 3) := by decide +kernel
theorem dL_areCounts_572 : decode cL_areCounts 572 = .ok (.aload_n 0, 1) := by decide +kernel
theorem dL_areCounts_573 : decode cL_areCounts 573 = .ok (.bipush 13, 2) := by decide +kernel
theorem dL_areCounts_575 : decode cL_areCounts 575 = .ok (.invokevirtual 62, 3) := by decide +kernel
theorem dL_areCounts_578 : decode cL_areCounts 578 = .ok (.iload 13, 2) := by decide +kernel
theorem dL_areCounts_580 : decode cL_areCounts 580 = .ok (.if_icmp .ne 45, 3) := by decide +kernel
theorem dL_areCounts_583 : decode cL_areCounts 583 = .ok (.aload_n 0, 1) := by decide +kernel
theorem dL_areCounts_584 : decode cL_areCounts 584 = .ok (.iload 14, 2) := by decide +kernel
theorem dL_areCounts_586 : decode cL_areCounts 586 = .ok (.invokevirtual 65, 3) := by decide +kernel
theorem dL_areCounts_589 : decode cL_areCounts 589 = .ok (.iload 15, 2) := by decide +kernel
theorem dL_areCounts_591 : decode cL_areCounts 591 = .ok (.if_icmp .ne 34, 3) := by decide +kernel
theorem dL_areCounts_594 : decode cL_areCounts 594 = .ok (.aload_n 0, 1) := by decide +kernel
theorem dL_areCounts_595 : decode cL_areCounts 595 = .ok (.invokevirtual 68, 3) := by decide +kernel
theorem dL_areCounts_598 : decode cL_areCounts 598 = .ok (.iload 19, 2) := by decide +kernel
theorem dL_areCounts_600 : decode cL_areCounts 600 = .ok (.if_icmp .ne 25, 3) := by decide +kernel
theorem dL_areCounts_603 : decode cL_areCounts 603 = .ok (.iload 10, 2) := by decide +kernel
theorem dL_areCounts_605 : decode cL_areCounts 605 = .ok (.iload 11, 2) := by decide +kernel
theorem dL_areCounts_607 : decode cL_areCounts 607 = .ok (.aload_n 2, 1) := by decide +kernel
theorem dL_areCounts_608 : decode cL_areCounts 608 = .ok (.iconst 3, 1) := by decide +kernel
theorem dL_areCounts_609 : decode cL_areCounts 609 = .ok (.iaload, 1) := by decide +kernel
theorem dL_areCounts_610 : decode cL_areCounts 610 = .ok (.imul, 1) := by decide +kernel
theorem dL_areCounts_611 : decode cL_areCounts 611 = .ok (.iload 12, 2) := by decide +kernel
theorem dL_areCounts_613 : decode cL_areCounts 613 = .ok (.aload_n 2, 1) := by decide +kernel
theorem dL_areCounts_614 : decode cL_areCounts 614 = .ok (.iconst 4, 1) := by decide +kernel
theorem dL_areCounts_615 : decode cL_areCounts 615 = .ok (.iaload, 1) := by decide +kernel
theorem dL_areCounts_616 : decode cL_areCounts 616 = .ok (.imul, 1) := by decide +kernel
theorem dL_areCounts_617 : decode cL_areCounts 617 = .ok (.iadd, 1) := by decide +kernel
theorem dL_areCounts_618 : decode cL_areCounts 618 = .ok (.if_icmp .ne 7, 3) := by decide +kernel
theorem dL_areCounts_621 : decode cL_areCounts 621 = .ok (.iconst 1, 1) := by decide +kernel
theorem dL_areCounts_622 : decode cL_areCounts 622 = .ok (.goto 4, 3) := by decide +kernel
theorem dL_areCounts_625 : decode cL_areCounts 625 = .ok (.iconst 0, 1) := by decide +kernel
theorem dL_areCounts_626 : decode cL_areCounts 626 = .ok (.istore 20, 2) := by decide +kernel
theorem dL_areCounts_628 : decode cL_areCounts 628 = .ok (.iload 20, 2) := by decide +kernel
theorem dL_areCounts_630 : decode cL_areCounts 630 = .ok (.ifCond .eq 94, 3) := by decide +kernel
theorem dL_areCounts_633 : decode cL_areCounts 633 = .ok (.aload_n 0, 1) := by decide +kernel
theorem dL_areCounts_634 : decode cL_areCounts 634 = .ok (.iload 16, 2) := by decide +kernel
theorem dL_areCounts_636 : decode cL_areCounts 636 = .ok (.iconst 0, 1) := by decide +kernel
theorem dL_areCounts_637 : decode cL_areCounts 637 = .ok (.invokevirtual 72, 3) := by decide +kernel
theorem dL_areCounts_640 : decode cL_areCounts 640 = .ok (.aload_n 2, 1) := by decide +kernel
theorem dL_areCounts_641 : decode cL_areCounts 641 = .ok (.bipush 6, 2) := by decide +kernel
theorem dL_areCounts_643 : decode cL_areCounts 643 = .ok (.iload 16, 2) := by decide +kernel
theorem dL_areCounts_645 : decode cL_areCounts 645 = .ok (.iadd, 1) := by decide +kernel
theorem dL_areCounts_646 : decode cL_areCounts 646 = .ok (.iaload, 1) := by decide +kernel
theorem dL_areCounts_647 : decode cL_areCounts 647 = .ok (.if_icmp .ne 77, 3) := by decide +kernel
theorem dL_areCounts_650 : decode cL_areCounts 650 = .ok (.aload_n 0, 1) := by decide +kernel
theorem dL_areCounts_651 : decode cL_areCounts 651 = .ok (.iload 16, 2) := by decide +kernel
theorem dL_areCounts_653 : decode cL_areCounts 653 = .ok (.iconst 1, 1) := by decide +kernel
theorem dL_areCounts_654 : decode cL_areCounts 654 = .ok (.invokevirtual 72, 3) := by decide +kernel
theorem dL_areCounts_657 : decode cL_areCounts 657 = .ok (.aload_n 2, 1) := by decide +kernel
theorem dL_areCounts_658 : decode cL_areCounts 658 = .ok (.bipush 12, 2) := by decide +kernel
theorem dL_areCounts_660 : decode cL_areCounts 660 = .ok (.iload 16, 2) := by decide +kernel
theorem dL_areCounts_662 : decode cL_areCounts 662 = .ok (.iadd, 1) := by decide +kernel
theorem dL_areCounts_663 : decode cL_areCounts 663 = .ok (.iaload, 1) := by decide +kernel
theorem dL_areCounts_664 : decode cL_areCounts 664 = .ok (.if_icmp .ne 60, 3) := by decide +kernel
theorem dL_areCounts_667 : decode cL_areCounts 667 = .ok (.aload_n 0, 1) := by decide +kernel
theorem dL_areCounts_668 : decode cL_areCounts 668 = .ok (.iload 16, 2) := by decide +kernel
theorem dL_areCounts_670 : decode cL_areCounts 670 = .ok (.iconst 2, 1) := by decide +kernel
theorem dL_areCounts_671 : decode cL_areCounts 671 = .ok (.invokevirtual 72, 3) := by decide +kernel
theorem dL_areCounts_674 : decode cL_areCounts 674 = .ok (.aload_n 2, 1) := by decide +kernel
theorem dL_areCounts_675 : decode cL_areCounts 675 = .ok (.bipush 6, 2) := by decide +kernel
theorem dL_areCounts_677 : decode cL_areCounts 677 = .ok (.iload 16, 2) := by decide +kernel
theorem dL_areCounts_679 : decode cL_areCounts 679 = .ok (.iadd, 1) := by decide +kernel
theorem dL_areCounts_680 : decode cL_areCounts 680 = .ok (.iaload, 1) := by decide +kernel
theorem dL_areCounts_681 : decode cL_areCounts 681 = .ok (.aload_n 2, 1) := by decide +kernel
theorem dL_areCounts_682 : decode cL_areCounts 682 = .ok (.bipush 12, 2) := by decide +kernel
theorem dL_areCounts_684 : decode cL_areCounts 684 = .ok (.iload 16, 2) := by decide +kernel
theorem dL_areCounts_686 : decode cL_areCounts 686 = .ok (.iadd, 1) := by decide +kernel
theorem dL_areCounts_687 : decode cL_areCounts 687 = .ok (.iaload, 1) := by decide +kernel
theorem dL_areCounts_688 : decode cL_areCounts 688 = .ok (.iadd, 1) := by decide +kernel
theorem dL_areCounts_689 : decode cL_areCounts 689 = .ok (.aload_n 2, 1) := by decide +kernel
theorem dL_areCounts_690 : decode cL_areCounts 690 = .ok (.iconst 0, 1) := by decide +kernel
theorem dL_areCounts_691 : decode cL_areCounts 691 = .ok (.iaload, 1) := by decide +kernel
theorem dL_areCounts_692 : decode cL_areCounts 692 = .ok (.iadd, 1) := by decide +kernel
theorem dL_areCounts_693 : decode cL_areCounts 693 = .ok (.if_icmp .ne 31, 3) := by decide +kernel
theorem dL_areCounts_696 : decode cL_areCounts 696 = .ok (.aload_n 0, 1) := by decide +kernel
theorem dL_areCounts_697 : decode cL_areCounts 697 = .ok (.iload 16, 2) := by decide +kernel
theorem dL_areCounts_699 : decode cL_areCounts 699 = .ok (.iconst 3, 1) := by decide +kernel
theorem dL_areCounts_700 : decode cL_areCounts 700 = .ok (.invokevirtual 72, 3) := by decide +kernel
theorem dL_areCounts_703 : decode cL_areCounts 703 = .ok (.iload 17, 2) := by decide +kernel
theorem dL_areCounts_705 : decode cL_areCounts 705 = .ok (.if_icmp .ne 19, 3) := by decide +kernel
theorem dL_areCounts_708 : decode cL_areCounts 708 = .ok (.aload_n 0, 1) := by decide +kernel
theorem dL_areCounts_709 : decode cL_areCounts 709 = .ok (.iload 16, 2) := by decide +kernel
theorem dL_areCounts_711 : decode cL_areCounts 711 = .ok (.iconst 4, 1) := by decide +kernel
theorem dL_areCounts_712 : decode cL_areCounts 712 = .ok (.invokevirtual 72, 3) := by decide +kernel
theorem dL_areCounts_715 : decode cL_areCounts 715 = .ok (.iload 18, 2) := by decide +kernel
theorem dL_areCounts_717 : decode cL_areCounts 717 = .ok (.if_icmp .ne 7, 3) := by decide +kernel
theorem dL_areCounts_720 : decode cL_areCounts 720 = .ok (.iconst 1, 1) := by decide +kernel
theorem dL_areCounts_721 : decode cL_areCounts 721 = .ok (.goto 4, 3) := by decide +kernel
theorem dL_areCounts_724 : decode cL_areCounts 724 = .ok (.iconst 0, 1) := by decide +kernel
theorem dL_areCounts_725 : decode cL_areCounts 725 = .ok (.ireturn, 1) := by decide +kernel
theorem dL_told_0 : decode cL_told 0 = .ok (.ldc2_w 75, 3) := by decide +kernel
theorem dL_told_3 : decode cL_told 3 = .ok (.lstore_n 1, 1) := by decide +kernel
theorem dL_told_4 : decode cL_told 4 = .ok (.iconst 0, 1) := by decide +kernel
theorem dL_told_5 : decode cL_told 5 = .ok (.istore_n 3, 1) := by decide +kernel
theorem dL_told_6 : decode cL_told 6 = .ok (.iload_n 3, 1) := by decide +kernel
theorem dL_told_7 : decode cL_told 7 = .ok (.bipush 14, 2) := by decide +kernel
theorem dL_told_9 : decode cL_told 9 = .ok (.if_icmp .ge 22, 3) := by decide +kernel
theorem dL_told_12 : decode cL_told 12 = .ok (.ldc2_w 77, 3) := by decide +kernel
theorem dL_told_15 : decode cL_told 15 = .ok (.lload_n 1, 1) := by decide +kernel
theorem dL_told_16 : decode cL_told 16 = .ok (.lmul, 1) := by decide +kernel
theorem dL_told_17 : decode cL_told 17 = .ok (.aload_n 0, 1) := by decide +kernel
theorem dL_told_18 : decode cL_told 18 = .ok (.iload_n 3, 1) := by decide +kernel
theorem dL_told_19 : decode cL_told 19 = .ok (.invokevirtual 62, 3) := by decide +kernel
theorem dL_told_22 : decode cL_told 22 = .ok (.i2l, 1) := by decide +kernel
theorem dL_told_23 : decode cL_told 23 = .ok (.ladd, 1) := by decide +kernel
theorem dL_told_24 : decode cL_told 24 = .ok (.lstore_n 1, 1) := by decide +kernel
theorem dL_told_25 : decode cL_told 25 = .ok (.iinc 3 1, 3) := by decide +kernel
theorem dL_told_28 : decode cL_told 28 = .ok (.goto (-22), 3) := by decide +kernel
theorem dL_told_31 : decode cL_told 31 = .ok (.iconst 0, 1) := by decide +kernel
theorem dL_told_32 : decode cL_told 32 = .ok (.istore_n 3, 1) := by decide +kernel
theorem dL_told_33 : decode cL_told 33 = .ok (.iload_n 3, 1) := by decide +kernel
theorem dL_told_34 : decode cL_told 34 = .ok (.bipush 24, 2) := by decide +kernel
theorem dL_told_36 : decode cL_told 36 = .ok (.if_icmp .ge 73, 3) := by decide +kernel
theorem dL_told_39 : decode cL_told 39 = .ok (.ldc2_w 77, 3) := by decide +kernel
theorem dL_told_42 : decode cL_told 42 = .ok (.lload_n 1, 1) := by decide +kernel
theorem dL_told_43 : decode cL_told 43 = .ok (.lmul, 1) := by decide +kernel
theorem dL_told_44 : decode cL_told 44 = .ok (.ldc2_w 79, 3) := by decide +kernel
theorem dL_told_47 : decode cL_told 47 = .ok (.aload_n 0, 1) := by decide +kernel
theorem dL_told_48 : decode cL_told 48 = .ok (.iload_n 3, 1) := by decide +kernel
theorem dL_told_49 : decode cL_told 49 = .ok (.iconst 0, 1) := by decide +kernel
theorem dL_told_50 : decode cL_told 50 = .ok (.invokevirtual 39, 3) := by decide +kernel
theorem dL_told_53 : decode cL_told 53 = .ok (.i2l, 1) := by decide +kernel
theorem dL_told_54 : decode cL_told 54 = .ok (.lmul, 1) := by decide +kernel
theorem dL_told_55 : decode cL_told 55 = .ok (.ladd, 1) := by decide +kernel
theorem dL_told_56 : decode cL_told 56 = .ok (.ldc2_w 81, 3) := by decide +kernel
theorem dL_told_59 : decode cL_told 59 = .ok (.aload_n 0, 1) := by decide +kernel
theorem dL_told_60 : decode cL_told 60 = .ok (.iload_n 3, 1) := by decide +kernel
theorem dL_told_61 : decode cL_told 61 = .ok (.iconst 1, 1) := by decide +kernel
theorem dL_told_62 : decode cL_told 62 = .ok (.invokevirtual 39, 3) := by decide +kernel
theorem dL_told_65 : decode cL_told 65 = .ok (.i2l, 1) := by decide +kernel
theorem dL_told_66 : decode cL_told 66 = .ok (.lmul, 1) := by decide +kernel
theorem dL_told_67 : decode cL_told 67 = .ok (.ladd, 1) := by decide +kernel
theorem dL_told_68 : decode cL_told 68 = .ok (.aload_n 0, 1) := by decide +kernel
theorem dL_told_69 : decode cL_told 69 = .ok (.iload_n 3, 1) := by decide +kernel
theorem dL_told_70 : decode cL_told 70 = .ok (.iconst 2, 1) := by decide +kernel
theorem dL_told_71 : decode cL_told 71 = .ok (.invokevirtual 39, 3) := by decide +kernel
theorem dL_told_74 : decode cL_told 74 = .ok (.i2l, 1) := by decide +kernel
theorem dL_told_75 : decode cL_told 75 = .ok (.ladd, 1) := by decide +kernel
theorem dL_told_76 : decode cL_told 76 = .ok (.lstore_n 1, 1) := by decide +kernel
theorem dL_told_77 : decode cL_told 77 = .ok (.ldc2_w 77, 3) := by decide +kernel
theorem dL_told_80 : decode cL_told 80 = .ok (.lload_n 1, 1) := by decide +kernel
theorem dL_told_81 : decode cL_told 81 = .ok (.lmul, 1) := by decide +kernel
theorem dL_told_82 : decode cL_told 82 = .ok (.ldc2_w 81, 3) := by decide +kernel
theorem dL_told_85 : decode cL_told 85 = .ok (.aload_n 0, 1) := by decide +kernel
theorem dL_told_86 : decode cL_told 86 = .ok (.iload_n 3, 1) := by decide +kernel
theorem dL_told_87 : decode cL_told 87 = .ok (.iconst 3, 1) := by decide +kernel
theorem dL_told_88 : decode cL_told 88 = .ok (.invokevirtual 39, 3) := by decide +kernel
theorem dL_told_91 : decode cL_told 91 = .ok (.i2l, 1) := by decide +kernel
theorem dL_told_92 : decode cL_told 92 = .ok (.lmul, 1) := by decide +kernel
theorem dL_told_93 : decode cL_told 93 = .ok (.ladd, 1) := by decide +kernel
theorem dL_told_94 : decode cL_told 94 = .ok (.aload_n 0, 1) := by decide +kernel
theorem dL_told_95 : decode cL_told 95 = .ok (.iload_n 3, 1) := by decide +kernel
theorem dL_told_96 : decode cL_told 96 = .ok (.iconst 5, 1) := by decide +kernel
theorem dL_told_97 : decode cL_told 97 = .ok (.invokevirtual 39, 3) := by decide +kernel
theorem dL_told_100 : decode cL_told 100 = .ok (.i2l, 1) := by decide +kernel
theorem dL_told_101 : decode cL_told 101 = .ok (.ladd, 1) := by decide +kernel
theorem dL_told_102 : decode cL_told 102 = .ok (.lstore_n 1, 1) := by decide +kernel
theorem dL_told_103 : decode cL_told 103 = .ok (.iinc 3 1, 3) := by decide +kernel
theorem dL_told_106 : decode cL_told 106 = .ok (.goto (-73), 3) := by decide +kernel
theorem dL_told_109 : decode cL_told 109 = .ok (.iconst 0, 1) := by decide +kernel
theorem dL_told_110 : decode cL_told 110 = .ok (.istore_n 3, 1) := by decide +kernel
theorem dL_told_111 : decode cL_told 111 = .ok (.iload_n 3, 1) := by decide +kernel
theorem dL_told_112 : decode cL_told 112 = .ok (.bipush 8, 2) := by decide +kernel
theorem dL_told_114 : decode cL_told 114 = .ok (.if_icmp .ge 35, 3) := by decide +kernel
theorem dL_told_117 : decode cL_told 117 = .ok (.ldc2_w 77, 3) := by decide +kernel
theorem dL_told_120 : decode cL_told 120 = .ok (.lload_n 1, 1) := by decide +kernel
theorem dL_told_121 : decode cL_told 121 = .ok (.lmul, 1) := by decide +kernel
theorem dL_told_122 : decode cL_told 122 = .ok (.ldc2_w 83, 3) := by decide +kernel
theorem dL_told_125 : decode cL_told 125 = .ok (.aload_n 0, 1) := by decide +kernel
theorem dL_told_126 : decode cL_told 126 = .ok (.iload_n 3, 1) := by decide +kernel
theorem dL_told_127 : decode cL_told 127 = .ok (.iconst 0, 1) := by decide +kernel
theorem dL_told_128 : decode cL_told 128 = .ok (.invokevirtual 52, 3) := by decide +kernel
theorem dL_told_131 : decode cL_told 131 = .ok (.i2l, 1) := by decide +kernel
theorem dL_told_132 : decode cL_told 132 = .ok (.lmul, 1) := by decide +kernel
theorem dL_told_133 : decode cL_told 133 = .ok (.ladd, 1) := by decide +kernel
theorem dL_told_134 : decode cL_told 134 = .ok (.aload_n 0, 1) := by decide +kernel
theorem dL_told_135 : decode cL_told 135 = .ok (.iload_n 3, 1) := by decide +kernel
theorem dL_told_136 : decode cL_told 136 = .ok (.iconst 1, 1) := by decide +kernel
theorem dL_told_137 : decode cL_told 137 = .ok (.invokevirtual 52, 3) := by decide +kernel
theorem dL_told_140 : decode cL_told 140 = .ok (.i2l, 1) := by decide +kernel
theorem dL_told_141 : decode cL_told 141 = .ok (.ladd, 1) := by decide +kernel
theorem dL_told_142 : decode cL_told 142 = .ok (.lstore_n 1, 1) := by decide +kernel
theorem dL_told_143 : decode cL_told 143 = .ok (.iinc 3 1, 3) := by decide +kernel
theorem dL_told_146 : decode cL_told 146 = .ok (.goto (-35), 3) := by decide +kernel
theorem dL_told_149 : decode cL_told 149 = .ok (.iconst 0, 1) := by decide +kernel
theorem dL_told_150 : decode cL_told 150 = .ok (.istore_n 3, 1) := by decide +kernel
theorem dL_told_151 : decode cL_told 151 = .ok (.iload_n 3, 1) := by decide +kernel
theorem dL_told_152 : decode cL_told 152 = .ok (.bipush 6, 2) := by decide +kernel
theorem dL_told_154 : decode cL_told 154 = .ok (.if_icmp .ge 35, 3) := by decide +kernel
theorem dL_told_157 : decode cL_told 157 = .ok (.ldc2_w 77, 3) := by decide +kernel
theorem dL_told_160 : decode cL_told 160 = .ok (.lload_n 1, 1) := by decide +kernel
theorem dL_told_161 : decode cL_told 161 = .ok (.lmul, 1) := by decide +kernel
theorem dL_told_162 : decode cL_told 162 = .ok (.ldc2_w 83, 3) := by decide +kernel
theorem dL_told_165 : decode cL_told 165 = .ok (.aload_n 0, 1) := by decide +kernel
theorem dL_told_166 : decode cL_told 166 = .ok (.iload_n 3, 1) := by decide +kernel
theorem dL_told_167 : decode cL_told 167 = .ok (.iconst 0, 1) := by decide +kernel
theorem dL_told_168 : decode cL_told 168 = .ok (.invokevirtual 72, 3) := by decide +kernel
theorem dL_told_171 : decode cL_told 171 = .ok (.i2l, 1) := by decide +kernel
theorem dL_told_172 : decode cL_told 172 = .ok (.lmul, 1) := by decide +kernel
theorem dL_told_173 : decode cL_told 173 = .ok (.ladd, 1) := by decide +kernel
theorem dL_told_174 : decode cL_told 174 = .ok (.aload_n 0, 1) := by decide +kernel
theorem dL_told_175 : decode cL_told 175 = .ok (.iload_n 3, 1) := by decide +kernel
theorem dL_told_176 : decode cL_told 176 = .ok (.iconst 1, 1) := by decide +kernel
theorem dL_told_177 : decode cL_told 177 = .ok (.invokevirtual 72, 3) := by decide +kernel
theorem dL_told_180 : decode cL_told 180 = .ok (.i2l, 1) := by decide +kernel
theorem dL_told_181 : decode cL_told 181 = .ok (.ladd, 1) := by decide +kernel
theorem dL_told_182 : decode cL_told 182 = .ok (.lstore_n 1, 1) := by decide +kernel
theorem dL_told_183 : decode cL_told 183 = .ok (.iinc 3 1, 3) := by decide +kernel
theorem dL_told_186 : decode cL_told 186 = .ok (.goto (-35), 3) := by decide +kernel
theorem dL_told_189 : decode cL_told 189 = .ok (.lload_n 1, 1) := by decide +kernel
theorem dL_told_190 : decode cL_told 190 = .ok (.lreturn, 1) := by decide +kernel
theorem dL_call_0 : decode cL_call 0 = .ok (.iload_n 1, 1) := by decide +kernel
theorem dL_call_1 : decode cL_call 1 = .ok (.tableswitch 86 0 5 #[39, 46, 53, 60, 69, 80], 39) := by decide +kernel
theorem dL_call_40 : decode cL_call 40 = .ok (.aload_n 0, 1) := by decide +kernel
theorem dL_call_41 : decode cL_call 41 = .ok (.iload_n 2, 1) := by decide +kernel
theorem dL_call_42 : decode cL_call 42 = .ok (.iload_n 3, 1) := by decide +kernel
theorem dL_call_43 : decode cL_call 43 = .ok (.invokevirtual 85, 3) := by decide +kernel
theorem dL_call_46 : decode cL_call 46 = .ok (.ireturn, 1) := by decide +kernel
theorem dL_call_47 : decode cL_call 47 = .ok (.aload_n 0, 1) := by decide +kernel
theorem dL_call_48 : decode cL_call 48 = .ok (.iload_n 2, 1) := by decide +kernel
theorem dL_call_49 : decode cL_call 49 = .ok (.iload_n 3, 1) := by decide +kernel
theorem dL_call_50 : decode cL_call 50 = .ok (.invokevirtual 88, 3) := by decide +kernel
theorem dL_call_53 : decode cL_call 53 = .ok (.ireturn, 1) := by decide +kernel
theorem dL_call_54 : decode cL_call 54 = .ok (.aload_n 0, 1) := by decide +kernel
theorem dL_call_55 : decode cL_call 55 = .ok (.iload_n 2, 1) := by decide +kernel
theorem dL_call_56 : decode cL_call 56 = .ok (.iload_n 3, 1) := by decide +kernel
theorem dL_call_57 : decode cL_call 57 = .ok (.invokevirtual 91, 3) := by decide +kernel
theorem dL_call_60 : decode cL_call 60 = .ok (.ireturn, 1) := by decide +kernel
theorem dL_call_61 : decode cL_call 61 = .ok (.aload_n 0, 1) := by decide +kernel
theorem dL_call_62 : decode cL_call 62 = .ok (.iload_n 2, 1) := by decide +kernel
theorem dL_call_63 : decode cL_call 63 = .ok (.iload_n 3, 1) := by decide +kernel
theorem dL_call_64 : decode cL_call 64 = .ok (.iload 4, 2) := by decide +kernel
theorem dL_call_66 : decode cL_call 66 = .ok (.invokevirtual 94, 3) := by decide +kernel
theorem dL_call_69 : decode cL_call 69 = .ok (.ireturn, 1) := by decide +kernel
theorem dL_call_70 : decode cL_call 70 = .ok (.aload_n 0, 1) := by decide +kernel
theorem dL_call_71 : decode cL_call 71 = .ok (.iload_n 2, 1) := by decide +kernel
theorem dL_call_72 : decode cL_call 72 = .ok (.iload_n 3, 1) := by decide +kernel
theorem dL_call_73 : decode cL_call 73 = .ok (.iload 4, 2) := by decide +kernel
theorem dL_call_75 : decode cL_call 75 = .ok (.iload 5, 2) := by decide +kernel
theorem dL_call_77 : decode cL_call 77 = .ok (.invokevirtual 97, 3) := by decide +kernel
theorem dL_call_80 : decode cL_call 80 = .ok (.ireturn, 1) := by decide +kernel
theorem dL_call_81 : decode cL_call 81 = .ok (.aload_n 0, 1) := by decide +kernel
theorem dL_call_82 : decode cL_call 82 = .ok (.iload_n 2, 1) := by decide +kernel
theorem dL_call_83 : decode cL_call 83 = .ok (.invokevirtual 101, 3) := by decide +kernel
theorem dL_call_86 : decode cL_call 86 = .ok (.ireturn, 1) := by decide +kernel
theorem dL_call_87 : decode cL_call 87 = .ok (.aload_n 0, 1) := by decide +kernel
theorem dL_call_88 : decode cL_call 88 = .ok (.iload_n 2, 1) := by decide +kernel
theorem dL_call_89 : decode cL_call 89 = .ok (.iload_n 3, 1) := by decide +kernel
theorem dL_call_90 : decode cL_call 90 = .ok (.invokevirtual 104, 3) := by decide +kernel
theorem dL_call_93 : decode cL_call 93 = .ok (.ireturn, 1) := by decide +kernel
theorem dL_due_0 : decode cL_due 0 = .ok (.iload_n 0, 1) := by decide +kernel
theorem dL_due_1 : decode cL_due 1 = .ok (.ifCond .ne 10, 3) := by decide +kernel
theorem dL_due_4 : decode cL_due 4 = .ok (.aload 5, 2) := by decide +kernel
theorem dL_due_6 : decode cL_due 6 = .ok (.iload_n 1, 1) := by decide +kernel
theorem dL_due_7 : decode cL_due 7 = .ok (.iaload, 1) := by decide +kernel
theorem dL_due_8 : decode cL_due 8 = .ok (.goto 19, 3) := by decide +kernel
theorem dL_due_11 : decode cL_due 11 = .ok (.iload_n 0, 1) := by decide +kernel
theorem dL_due_12 : decode cL_due 12 = .ok (.iconst 1, 1) := by decide +kernel
theorem dL_due_13 : decode cL_due 13 = .ok (.if_icmp .ne 13, 3) := by decide +kernel
theorem dL_due_16 : decode cL_due 16 = .ok (.aload 5, 2) := by decide +kernel
theorem dL_due_18 : decode cL_due 18 = .ok (.bipush 6, 2) := by decide +kernel
theorem dL_due_20 : decode cL_due 20 = .ok (.iload_n 1, 1) := by decide +kernel
theorem dL_due_21 : decode cL_due 21 = .ok (.iadd, 1) := by decide +kernel
theorem dL_due_22 : decode cL_due 22 = .ok (.iaload, 1) := by decide +kernel
theorem dL_due_23 : decode cL_due 23 = .ok (.goto 4, 3) := by decide +kernel
theorem dL_due_26 : decode cL_due 26 = .ok (.iconst 0, 1) := by decide +kernel
theorem dL_due_27 : decode cL_due 27 = .ok (.istore 10, 2) := by decide +kernel
theorem dL_due_29 : decode cL_due 29 = .ok (.iload_n 0, 1) := by decide +kernel
theorem dL_due_30 : decode cL_due 30 = .ok (.tableswitch 308 0 5 #[38, 46, 57, 80, 158, 210], 38) := by decide +kernel
theorem dL_due_68 : decode cL_due 68 = .ok (.aload 5, 2) := by decide +kernel
theorem dL_due_70 : decode cL_due 70 = .ok (.iload_n 1, 1) := by decide +kernel
theorem dL_due_71 : decode cL_due 71 = .ok (.iload_n 2, 1) := by decide +kernel
theorem dL_due_72 : decode cL_due 72 = .ok (.iastore, 1) := by decide +kernel
theorem dL_due_73 : decode cL_due 73 = .ok (.iload 10, 2) := by decide +kernel
theorem dL_due_75 : decode cL_due 75 = .ok (.ireturn, 1) := by decide +kernel
theorem dL_due_76 : decode cL_due 76 = .ok (.aload 5, 2) := by decide +kernel
theorem dL_due_78 : decode cL_due 78 = .ok (.bipush 6, 2) := by decide +kernel
theorem dL_due_80 : decode cL_due 80 = .ok (.iload_n 1, 1) := by decide +kernel
theorem dL_due_81 : decode cL_due 81 = .ok (.iadd, 1) := by decide +kernel
theorem dL_due_82 : decode cL_due 82 = .ok (.iload_n 2, 1) := by decide +kernel
theorem dL_due_83 : decode cL_due 83 = .ok (.iastore, 1) := by decide +kernel
theorem dL_due_84 : decode cL_due 84 = .ok (.iload 10, 2) := by decide +kernel
theorem dL_due_86 : decode cL_due 86 = .ok (.ireturn, 1) := by decide +kernel
theorem dL_due_87 : decode cL_due 87 = .ok (.aload 5, 2) := by decide +kernel
theorem dL_due_89 : decode cL_due 89 = .ok (.bipush 12, 2) := by decide +kernel
theorem dL_due_91 : decode cL_due 91 = .ok (.iload_n 1, 1) := by decide +kernel
theorem dL_due_92 : decode cL_due 92 = .ok (.iadd, 1) := by decide +kernel
theorem dL_due_93 : decode cL_due 93 = .ok (.iload_n 2, 1) := by decide +kernel
theorem dL_due_94 : decode cL_due 94 = .ok (.iastore, 1) := by decide +kernel
theorem dL_due_95 : decode cL_due 95 = .ok (.aload 5, 2) := by decide +kernel
theorem dL_due_97 : decode cL_due 97 = .ok (.bipush 6, 2) := by decide +kernel
theorem dL_due_99 : decode cL_due 99 = .ok (.iload_n 1, 1) := by decide +kernel
theorem dL_due_100 : decode cL_due 100 = .ok (.iadd, 1) := by decide +kernel
theorem dL_due_101 : decode cL_due 101 = .ok (.iaload, 1) := by decide +kernel
theorem dL_due_102 : decode cL_due 102 = .ok (.iload_n 2, 1) := by decide +kernel
theorem dL_due_103 : decode cL_due 103 = .ok (.iadd, 1) := by decide +kernel
theorem dL_due_104 : decode cL_due 104 = .ok (.aload 5, 2) := by decide +kernel
theorem dL_due_106 : decode cL_due 106 = .ok (.iconst 0, 1) := by decide +kernel
theorem dL_due_107 : decode cL_due 107 = .ok (.iaload, 1) := by decide +kernel
theorem dL_due_108 : decode cL_due 108 = .ok (.iadd, 1) := by decide +kernel
theorem dL_due_109 : decode cL_due 109 = .ok (.ireturn, 1) := by decide +kernel
theorem dL_due_110 : decode cL_due 110 = .ok (.aload 5, 2) := by decide +kernel
theorem dL_due_112 : decode cL_due 112 = .ok (.bipush 18, 2) := by decide +kernel
theorem dL_due_114 : decode cL_due 114 = .ok (.iload_n 1, 1) := by decide +kernel
theorem dL_due_115 : decode cL_due 115 = .ok (.iadd, 1) := by decide +kernel
theorem dL_due_116 : decode cL_due 116 = .ok (.iload_n 2, 1) := by decide +kernel
theorem dL_due_117 : decode cL_due 117 = .ok (.iastore, 1) := by decide +kernel
theorem dL_due_118 : decode cL_due 118 = .ok (.aload 5, 2) := by decide +kernel
theorem dL_due_120 : decode cL_due 120 = .ok (.bipush 26, 2) := by decide +kernel
theorem dL_due_122 : decode cL_due 122 = .ok (.iload_n 1, 1) := by decide +kernel
theorem dL_due_123 : decode cL_due 123 = .ok (.iadd, 1) := by decide +kernel
theorem dL_due_124 : decode cL_due 124 = .ok (.iload_n 3, 1) := by decide +kernel
theorem dL_due_125 : decode cL_due 125 = .ok (.iastore, 1) := by decide +kernel
theorem dL_due_126 : decode cL_due 126 = .ok (.aload 5, 2) := by decide +kernel
theorem dL_due_128 : decode cL_due 128 = .ok (.aload 6, 2) := by decide +kernel
theorem dL_due_130 : decode cL_due 130 = .ok (.aload 7, 2) := by decide +kernel
theorem dL_due_132 : decode cL_due 132 = .ok (.aload 8, 2) := by decide +kernel
theorem dL_due_134 : decode cL_due 134 = .ok (.aload 9, 2) := by decide +kernel
theorem dL_due_136 : decode cL_due 136 = .ok (.invokestatic 107, 3) := by decide +kernel
theorem dL_due_139 : decode cL_due 139 = .ok (.iconst 0, 1) := by decide +kernel
theorem dL_due_140 : decode cL_due 140 = .ok (.istore 11, 2) := by decide +kernel
theorem dL_due_142 : decode cL_due 142 = .ok (.iconst 0, 1) := by decide +kernel
theorem dL_due_143 : decode cL_due 143 = .ok (.istore 12, 2) := by decide +kernel
theorem dL_due_145 : decode cL_due 145 = .ok (.iload 12, 2) := by decide +kernel
theorem dL_due_147 : decode cL_due 147 = .ok (.aload 5, 2) := by decide +kernel
theorem dL_due_149 : decode cL_due 149 = .ok (.iconst 5, 1) := by decide +kernel
theorem dL_due_150 : decode cL_due 150 = .ok (.iaload, 1) := by decide +kernel
theorem dL_due_151 : decode cL_due 151 = .ok (.if_icmp .ge 34, 3) := by decide +kernel
theorem dL_due_154 : decode cL_due 154 = .ok (.iload 11, 2) := by decide +kernel
theorem dL_due_156 : decode cL_due 156 = .ok (.aload 7, 2) := by decide +kernel
theorem dL_due_158 : decode cL_due 158 = .ok (.iload 12, 2) := by decide +kernel
theorem dL_due_160 : decode cL_due 160 = .ok (.iaload, 1) := by decide +kernel
theorem dL_due_161 : decode cL_due 161 = .ok (.ifCond .ge 14, 3) := by decide +kernel
theorem dL_due_164 : decode cL_due 164 = .ok (.aload 6, 2) := by decide +kernel
theorem dL_due_166 : decode cL_due 166 = .ok (.iload 12, 2) := by decide +kernel
theorem dL_due_168 : decode cL_due 168 = .ok (.iaload, 1) := by decide +kernel
theorem dL_due_169 : decode cL_due 169 = .ok (.invokestatic 20, 3) := by decide +kernel
theorem dL_due_172 : decode cL_due 172 = .ok (.goto 4, 3) := by decide +kernel
theorem dL_due_175 : decode cL_due 175 = .ok (.iconst 0, 1) := by decide +kernel
theorem dL_due_176 : decode cL_due 176 = .ok (.iadd, 1) := by decide +kernel
theorem dL_due_177 : decode cL_due 177 = .ok (.istore 11, 2) := by decide +kernel
theorem dL_due_179 : decode cL_due 179 = .ok (.iinc 12 1, 3) := by decide +kernel
theorem dL_due_182 : decode cL_due 182 = .ok (.goto (-37), 3) := by decide +kernel
theorem dL_due_185 : decode cL_due 185 = .ok (.iload 11, 2) := by decide +kernel
theorem dL_due_187 : decode cL_due 187 = .ok (.ireturn, 1) := by decide +kernel
theorem dL_due_188 : decode cL_due 188 = .ok (.aload 5, 2) := by decide +kernel
theorem dL_due_190 : decode cL_due 190 = .ok (.iconst 5, 1) := by decide +kernel
theorem dL_due_191 : decode cL_due 191 = .ok (.iaload, 1) := by decide +kernel
theorem dL_due_192 : decode cL_due 192 = .ok (.bipush 24, 2) := by decide +kernel
theorem dL_due_194 : decode cL_due 194 = .ok (.if_icmp .ne 6, 3) := by decide +kernel
theorem dL_due_197 : decode cL_due 197 = .ok (.bipush (-104), 2) := by decide +kernel
theorem dL_due_199 : decode cL_due 199 = .ok (.ireturn, 1) := by decide +kernel
theorem dL_due_200 : decode cL_due 200 = .ok (.aload 6, 2) := by decide +kernel
theorem dL_due_202 : decode cL_due 202 = .ok (.aload 5, 2) := by decide +kernel
theorem dL_due_204 : decode cL_due 204 = .ok (.iconst 5, 1) := by decide +kernel
theorem dL_due_205 : decode cL_due 205 = .ok (.iaload, 1) := by decide +kernel
theorem dL_due_206 : decode cL_due 206 = .ok (.iload_n 1, 1) := by decide +kernel
theorem dL_due_207 : decode cL_due 207 = .ok (.bipush 8, 2) := by decide +kernel
theorem dL_due_209 : decode cL_due 209 = .ok (.iload_n 2, 1) := by decide +kernel
theorem dL_due_210 : decode cL_due 210 = .ok (.imul, 1) := by decide +kernel
theorem dL_due_211 : decode cL_due 211 = .ok (.iadd, 1) := by decide +kernel
theorem dL_due_212 : decode cL_due 212 = .ok (.bipush 64, 2) := by decide +kernel
theorem dL_due_214 : decode cL_due 214 = .ok (.iload_n 3, 1) := by decide +kernel
theorem dL_due_215 : decode cL_due 215 = .ok (.imul, 1) := by decide +kernel
theorem dL_due_216 : decode cL_due 216 = .ok (.iadd, 1) := by decide +kernel
theorem dL_due_217 : decode cL_due 217 = .ok (.sipush 8192, 3) := by decide +kernel
theorem dL_due_220 : decode cL_due 220 = .ok (.iload 4, 2) := by decide +kernel
theorem dL_due_222 : decode cL_due 222 = .ok (.imul, 1) := by decide +kernel
theorem dL_due_223 : decode cL_due 223 = .ok (.iadd, 1) := by decide +kernel
theorem dL_due_224 : decode cL_due 224 = .ok (.iastore, 1) := by decide +kernel
theorem dL_due_225 : decode cL_due 225 = .ok (.aload 5, 2) := by decide +kernel
theorem dL_due_227 : decode cL_due 227 = .ok (.iconst 5, 1) := by decide +kernel
theorem dL_due_228 : decode cL_due 228 = .ok (.dup2, 1) := by decide +kernel
theorem dL_due_229 : decode cL_due 229 = .ok (.iaload, 1) := by decide +kernel
theorem dL_due_230 : decode cL_due 230 = .ok (.iconst 1, 1) := by decide +kernel
theorem dL_due_231 : decode cL_due 231 = .ok (.iadd, 1) := by decide +kernel
theorem dL_due_232 : decode cL_due 232 = .ok (.iastore, 1) := by decide +kernel
theorem dL_due_233 : decode cL_due 233 = .ok (.aload 5, 2) := by decide +kernel
theorem dL_due_235 : decode cL_due 235 = .ok (.iconst 5, 1) := by decide +kernel

/-! the law's instructions -/
theorem dL_law_426 : decode cL_law 426 = .ok (.invokevirtual 127, 3) := by decide +kernel
theorem dL_law_429 : decode cL_law 429 = .ok (.iconst 1, 1) := by decide +kernel
theorem dL_law_430 : decode cL_law 430 = .ok (.if_icmp .ne 30, 3) := by decide +kernel
theorem dL_law_433 : decode cL_law 433 = .ok (.iload 10, 2) := by decide +kernel
theorem dL_law_435 : decode cL_law 435 = .ok (.bipush 50, 2) := by decide +kernel
theorem dL_law_437 : decode cL_law 437 = .ok (.if_icmp .ge 25, 3) := by decide +kernel
theorem dL_law_440 : decode cL_law 440 = .ok (.iload 11, 2) := by decide +kernel
theorem dL_law_442 : decode cL_law 442 = .ok (.aload_n 1, 1) := by decide +kernel
theorem dL_law_443 : decode cL_law 443 = .ok (.invokevirtual 130, 3) := by decide +kernel
theorem dL_law_446 : decode cL_law 446 = .ok (.if_icmp .ne 14, 3) := by decide +kernel
theorem dL_law_449 : decode cL_law 449 = .ok (.aload_n 1, 1) := by decide +kernel
theorem dL_law_450 : decode cL_law 450 = .ok (.iload 10, 2) := by decide +kernel
theorem dL_law_452 : decode cL_law 452 = .ok (.iconst 1, 1) := by decide +kernel
theorem dL_law_453 : decode cL_law 453 = .ok (.iadd, 1) := by decide +kernel
theorem dL_law_454 : decode cL_law 454 = .ok (.invokevirtual 127, 3) := by decide +kernel
theorem dL_law_457 : decode cL_law 457 = .ok (.ifCond .eq 5, 3) := by decide +kernel
theorem dL_law_460 : decode cL_law 460 = .ok (.iconst 0, 1) := by decide +kernel
theorem dL_law_461 : decode cL_law 461 = .ok (.ireturn, 1) := by decide +kernel
theorem dL_law_462 : decode cL_law 462 = .ok (.iconst 0, 1) := by decide +kernel
theorem dL_law_463 : decode cL_law 463 = .ok (.istore 12, 2) := by decide +kernel
theorem dL_law_465 : decode cL_law 465 = .ok (.iconst 0, 1) := by decide +kernel
theorem dL_law_466 : decode cL_law 466 = .ok (.istore 13, 2) := by decide +kernel
theorem dL_law_468 : decode cL_law 468 = .ok (.iload 13, 2) := by decide +kernel
theorem dL_law_470 : decode cL_law 470 = .ok (.bipush 10, 2) := by decide +kernel
theorem dL_law_472 : decode cL_law 472 = .ok (.if_icmp .ge 28, 3) := by decide +kernel
theorem dL_law_475 : decode cL_law 475 = .ok (.iload 12, 2) := by decide +kernel
theorem dL_law_477 : decode cL_law 477 = .ok (.aload_n 1, 1) := by decide +kernel
theorem dL_law_478 : decode cL_law 478 = .ok (.iload 13, 2) := by decide +kernel
theorem dL_law_480 : decode cL_law 480 = .ok (.invokevirtual 133, 3) := by decide +kernel
theorem dL_law_483 : decode cL_law 483 = .ok (.ifCond .ge 7, 3) := by decide +kernel
theorem dL_law_486 : decode cL_law 486 = .ok (.iconst 0, 1) := by decide +kernel
theorem dL_law_487 : decode cL_law 487 = .ok (.goto 4, 3) := by decide +kernel
theorem dL_law_490 : decode cL_law 490 = .ok (.iconst 1, 1) := by decide +kernel
theorem dL_law_491 : decode cL_law 491 = .ok (.iadd, 1) := by decide +kernel
theorem dL_law_492 : decode cL_law 492 = .ok (.istore 12, 2) := by decide +kernel
theorem dL_law_494 : decode cL_law 494 = .ok (.iinc 13 1, 3) := by decide +kernel
theorem dL_law_497 : decode cL_law 497 = .ok (.goto (-29), 3) := by decide +kernel
theorem dL_law_500 : decode cL_law 500 = .ok (.iload 12, 2) := by decide +kernel
theorem dL_law_502 : decode cL_law 502 = .ok (.aload_n 1, 1) := by decide +kernel
theorem dL_law_503 : decode cL_law 503 = .ok (.invokevirtual 136, 3) := by decide +kernel
theorem dL_law_506 : decode cL_law 506 = .ok (.if_icmp .ne 20, 3) := by decide +kernel
theorem dL_law_509 : decode cL_law 509 = .ok (.aload_n 1, 1) := by decide +kernel
theorem dL_law_510 : decode cL_law 510 = .ok (.iconst 0, 1) := by decide +kernel
theorem dL_law_511 : decode cL_law 511 = .ok (.invokevirtual 133, 3) := by decide +kernel
theorem dL_law_514 : decode cL_law 514 = .ok (.ifCond .lt 12, 3) := by decide +kernel
theorem dL_law_517 : decode cL_law 517 = .ok (.aload_n 1, 1) := by decide +kernel
theorem dL_law_518 : decode cL_law 518 = .ok (.iconst 0, 1) := by decide +kernel
theorem dL_law_519 : decode cL_law 519 = .ok (.invokevirtual 133, 3) := by decide +kernel
theorem dL_law_522 : decode cL_law 522 = .ok (.iconst 1, 1) := by decide +kernel
theorem dL_law_523 : decode cL_law 523 = .ok (.if_icmp .le 5, 3) := by decide +kernel
theorem dL_law_526 : decode cL_law 526 = .ok (.iconst 0, 1) := by decide +kernel
theorem dL_law_527 : decode cL_law 527 = .ok (.ireturn, 1) := by decide +kernel
theorem dL_law_528 : decode cL_law 528 = .ok (.iload 9, 2) := by decide +kernel
theorem dL_law_530 : decode cL_law 530 = .ok (.istore 13, 2) := by decide +kernel
theorem dL_law_532 : decode cL_law 532 = .ok (.iconst (-1), 1) := by decide +kernel
theorem dL_law_533 : decode cL_law 533 = .ok (.istore 14, 2) := by decide +kernel
theorem dL_law_535 : decode cL_law 535 = .ok (.bipush 6, 2) := by decide +kernel
theorem dL_law_537 : decode cL_law 537 = .ok (.istore 15, 2) := by decide +kernel
theorem dL_law_539 : decode cL_law 539 = .ok (.iload 15, 2) := by decide +kernel
theorem dL_law_541 : decode cL_law 541 = .ok (.bipush 15, 2) := by decide +kernel
theorem dL_law_543 : decode cL_law 543 = .ok (.if_icmp .ge 70, 3) := by decide +kernel
theorem dL_law_546 : decode cL_law 546 = .ok (.aload_n 2, 1) := by decide +kernel
theorem dL_law_547 : decode cL_law 547 = .ok (.iload 15, 2) := by decide +kernel
theorem dL_law_549 : decode cL_law 549 = .ok (.invokevirtual 139, 3) := by decide +kernel
theorem dL_law_552 : decode cL_law 552 = .ok (.ifCond .ne 6, 3) := by decide +kernel
theorem dL_law_555 : decode cL_law 555 = .ok (.goto 52, 3) := by decide +kernel
theorem dL_law_558 : decode cL_law 558 = .ok (.aload_n 1, 1) := by decide +kernel
theorem dL_law_559 : decode cL_law 559 = .ok (.iload 15, 2) := by decide +kernel
theorem dL_law_561 : decode cL_law 561 = .ok (.iconst 3, 1) := by decide +kernel
theorem dL_law_562 : decode cL_law 562 = .ok (.idiv, 1) := by decide +kernel
theorem dL_law_563 : decode cL_law 563 = .ok (.iconst 2, 1) := by decide +kernel
theorem dL_law_564 : decode cL_law 564 = .ok (.isub, 1) := by decide +kernel
theorem dL_law_565 : decode cL_law 565 = .ok (.iload 15, 2) := by decide +kernel
theorem dL_law_567 : decode cL_law 567 = .ok (.iconst 3, 1) := by decide +kernel
theorem dL_law_568 : decode cL_law 568 = .ok (.irem, 1) := by decide +kernel
theorem dL_law_569 : decode cL_law 569 = .ok (.invokevirtual 142, 3) := by decide +kernel
theorem dL_law_572 : decode cL_law 572 = .ok (.istore 16, 2) := by decide +kernel
theorem dL_law_574 : decode cL_law 574 = .ok (.iload 16, 2) := by decide +kernel
theorem dL_law_576 : decode cL_law 576 = .ok (.iconst 1, 1) := by decide +kernel
theorem dL_law_577 : decode cL_law 577 = .ok (.if_icmp .lt 10, 3) := by decide +kernel
theorem dL_law_580 : decode cL_law 580 = .ok (.iload 16, 2) := by decide +kernel
theorem dL_law_582 : decode cL_law 582 = .ok (.iload 9, 2) := by decide +kernel
theorem dL_law_584 : decode cL_law 584 = .ok (.if_icmp .le 5, 3) := by decide +kernel
theorem dL_law_587 : decode cL_law 587 = .ok (.iconst 0, 1) := by decide +kernel
theorem dL_law_588 : decode cL_law 588 = .ok (.ireturn, 1) := by decide +kernel
theorem dL_law_589 : decode cL_law 589 = .ok (.iload 16, 2) := by decide +kernel
theorem dL_law_591 : decode cL_law 591 = .ok (.iload 13, 2) := by decide +kernel
theorem dL_law_593 : decode cL_law 593 = .ok (.if_icmp .lt 6, 3) := by decide +kernel
theorem dL_law_596 : decode cL_law 596 = .ok (.goto 11, 3) := by decide +kernel
theorem dL_law_599 : decode cL_law 599 = .ok (.iload 16, 2) := by decide +kernel
theorem dL_law_601 : decode cL_law 601 = .ok (.istore 13, 2) := by decide +kernel
theorem dL_law_603 : decode cL_law 603 = .ok (.iload 15, 2) := by decide +kernel
theorem dL_law_605 : decode cL_law 605 = .ok (.istore 14, 2) := by decide +kernel
theorem dL_law_607 : decode cL_law 607 = .ok (.iinc 15 1, 3) := by decide +kernel
theorem dL_law_610 : decode cL_law 610 = .ok (.goto (-71), 3) := by decide +kernel
theorem dL_law_613 : decode cL_law 613 = .ok (.aload_n 1, 1) := by decide +kernel
theorem dL_law_614 : decode cL_law 614 = .ok (.invokevirtual 145, 3) := by decide +kernel
theorem dL_law_617 : decode cL_law 617 = .ok (.iload 14, 2) := by decide +kernel
theorem dL_law_619 : decode cL_law 619 = .ok (.if_icmp .ne 13, 3) := by decide +kernel
theorem dL_law_622 : decode cL_law 622 = .ok (.aload_n 1, 1) := by decide +kernel
theorem dL_law_623 : decode cL_law 623 = .ok (.invokevirtual 67, 3) := by decide +kernel
theorem dL_law_626 : decode cL_law 626 = .ok (.lload 5, 2) := by decide +kernel
theorem dL_law_628 : decode cL_law 628 = .ok (.lcmp, 1) := by decide +kernel
theorem dL_law_629 : decode cL_law 629 = .ok (.ifCond .eq 5, 3) := by decide +kernel
theorem dL_law_632 : decode cL_law 632 = .ok (.iconst 0, 1) := by decide +kernel
theorem dL_law_633 : decode cL_law 633 = .ok (.ireturn, 1) := by decide +kernel
theorem dL_law_634 : decode cL_law 634 = .ok (.iload 14, 2) := by decide +kernel
theorem dL_law_636 : decode cL_law 636 = .ok (.ifCond .lt 59, 3) := by decide +kernel
theorem dL_law_639 : decode cL_law 639 = .ok (.iload 4, 2) := by decide +kernel
theorem dL_law_641 : decode cL_law 641 = .ok (.iconst 5, 1) := by decide +kernel

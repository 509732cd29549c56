theorem dL_act_434 : decode cL_act 434 = .ok (.iload_n 3, 1) := by decide +kernel
theorem dL_act_435 : decode cL_act 435 = .ok (.invokestatic 19, 3) := by decide +kernel
theorem dL_act_438 : decode cL_act 438 = .ok (.invokevirtual 59, 3) := by decide +kernel
theorem dL_act_441 : decode cL_act 441 = .ok (.iload 16, 2) := by decide +kernel
theorem dL_act_443 : decode cL_act 443 = .ok (.if_icmp .ne 7, 3) := by decide +kernel
theorem dL_act_446 : decode cL_act 446 = .ok (.iconst 1, 1) := by decide +kernel
theorem dL_act_447 : decode cL_act 447 = .ok (.goto 4, 3) := by decide +kernel
theorem dL_act_450 : decode cL_act 450 = .ok (.iconst 0, 1) := by decide +kernel
theorem dL_act_451 : decode cL_act 451 = .ok (.ireturn, 1) := by decide +kernel
theorem dL_act_452 : decode cL_act 452 = .ok (.iload 4, 2) := by decide +kernel
theorem dL_act_454 : decode cL_act 454 = .ok (.ifCond .ne 5, 3) := by decide +kernel
theorem dL_act_457 : decode cL_act 457 = .ok (.iconst 1, 1) := by decide +kernel
theorem dL_act_458 : decode cL_act 458 = .ok (.ireturn, 1) := by decide +kernel
theorem dL_act_459 : decode cL_act 459 = .ok (.aload_n 1, 1) := by decide +kernel
theorem dL_act_460 : decode cL_act 460 = .ok (.getfield 15, 3) := by decide +kernel
theorem dL_act_463 : decode cL_act 463 = .ok (.iload_n 2, 1) := by decide +kernel
theorem dL_act_464 : decode cL_act 464 = .ok (.iload 4, 2) := by decide +kernel
theorem dL_act_466 : decode cL_act 466 = .ok (.invokestatic 19, 3) := by decide +kernel
theorem dL_act_469 : decode cL_act 469 = .ok (.aaload, 1) := by decide +kernel
theorem dL_act_470 : decode cL_act 470 = .ok (.astore 17, 2) := by decide +kernel
theorem dL_act_472 : decode cL_act 472 = .ok (.aload 17, 2) := by decide +kernel
theorem dL_act_474 : decode cL_act 474 = .ok (.getfield 63, 3) := by decide +kernel
theorem dL_act_477 : decode cL_act 477 = .ok (.istore 18, 2) := by decide +kernel
theorem dL_act_479 : decode cL_act 479 = .ok (.aload 17, 2) := by decide +kernel
theorem dL_act_481 : decode cL_act 481 = .ok (.iconst 0, 1) := by decide +kernel
theorem dL_act_482 : decode cL_act 482 = .ok (.putfield 63, 3) := by decide +kernel
theorem dL_act_485 : decode cL_act 485 = .ok (.aload_n 0, 1) := by decide +kernel
theorem dL_act_486 : decode cL_act 486 = .ok (.iload_n 2, 1) := by decide +kernel
theorem dL_act_487 : decode cL_act 487 = .ok (.iload 4, 2) := by decide +kernel
theorem dL_act_489 : decode cL_act 489 = .ok (.invokestatic 19, 3) := by decide +kernel
theorem dL_act_492 : decode cL_act 492 = .ok (.invokevirtual 68, 3) := by decide +kernel
theorem dL_act_495 : decode cL_act 495 = .ok (.iload 18, 2) := by decide +kernel
theorem dL_act_497 : decode cL_act 497 = .ok (.if_icmp .ne 7, 3) := by decide +kernel
theorem dL_act_500 : decode cL_act 500 = .ok (.iconst 1, 1) := by decide +kernel
theorem dL_act_501 : decode cL_act 501 = .ok (.goto 4, 3) := by decide +kernel
theorem dL_act_504 : decode cL_act 504 = .ok (.iconst 0, 1) := by decide +kernel
theorem dL_act_505 : decode cL_act 505 = .ok (.ireturn, 1) := by decide +kernel
theorem dL_act_506 : decode cL_act 506 = .ok (.iload 4, 2) := by decide +kernel
theorem dL_act_508 : decode cL_act 508 = .ok (.ifCond .ne 5, 3) := by decide +kernel
theorem dL_act_511 : decode cL_act 511 = .ok (.iconst 1, 1) := by decide +kernel
theorem dL_act_512 : decode cL_act 512 = .ok (.ireturn, 1) := by decide +kernel
theorem dL_act_513 : decode cL_act 513 = .ok (.aload_n 1, 1) := by decide +kernel
theorem dL_act_514 : decode cL_act 514 = .ok (.getfield 15, 3) := by decide +kernel
theorem dL_act_517 : decode cL_act 517 = .ok (.iload_n 2, 1) := by decide +kernel
theorem dL_act_518 : decode cL_act 518 = .ok (.iload 4, 2) := by decide +kernel
theorem dL_act_520 : decode cL_act 520 = .ok (.invokestatic 19, 3) := by decide +kernel
theorem dL_act_523 : decode cL_act 523 = .ok (.aaload, 1) := by decide +kernel
theorem dL_act_524 : decode cL_act 524 = .ok (.astore 19, 2) := by decide +kernel
theorem dL_act_526 : decode cL_act 526 = .ok (.aload 19, 2) := by decide +kernel
theorem dL_act_528 : decode cL_act 528 = .ok (.getfield 71, 3) := by decide +kernel
theorem dL_act_531 : decode cL_act 531 = .ok (.istore 20, 2) := by decide +kernel
theorem dL_act_533 : decode cL_act 533 = .ok (.aload 19, 2) := by decide +kernel
theorem dL_act_535 : decode cL_act 535 = .ok (.iload_n 2, 1) := by decide +kernel
theorem dL_act_536 : decode cL_act 536 = .ok (.iconst 4, 1) := by decide +kernel
theorem dL_act_537 : decode cL_act 537 = .ok (.ishr, 1) := by decide +kernel
theorem dL_act_538 : decode cL_act 538 = .ok (.iconst 3, 1) := by decide +kernel
theorem dL_act_539 : decode cL_act 539 = .ok (.invokestatic 19, 3) := by decide +kernel
theorem dL_act_542 : decode cL_act 542 = .ok (.ifCond .ne 7, 3) := by decide +kernel
theorem dL_act_545 : decode cL_act 545 = .ok (.iconst 0, 1) := by decide +kernel
theorem dL_act_546 : decode cL_act 546 = .ok (.goto 11, 3) := by decide +kernel
theorem dL_act_549 : decode cL_act 549 = .ok (.iload_n 2, 1) := by decide +kernel
theorem dL_act_550 : decode cL_act 550 = .ok (.iconst 3, 1) := by decide +kernel
theorem dL_act_551 : decode cL_act 551 = .ok (.ishr, 1) := by decide +kernel
theorem dL_act_552 : decode cL_act 552 = .ok (.bipush 10, 2) := by decide +kernel
theorem dL_act_554 : decode cL_act 554 = .ok (.invokestatic 19, 3) := by decide +kernel
theorem dL_act_557 : decode cL_act 557 = .ok (.putfield 71, 3) := by decide +kernel
theorem dL_act_560 : decode cL_act 560 = .ok (.aload_n 0, 1) := by decide +kernel
theorem dL_act_561 : decode cL_act 561 = .ok (.iload_n 2, 1) := by decide +kernel
theorem dL_act_562 : decode cL_act 562 = .ok (.iload 4, 2) := by decide +kernel
theorem dL_act_564 : decode cL_act 564 = .ok (.invokestatic 19, 3) := by decide +kernel
theorem dL_act_567 : decode cL_act 567 = .ok (.aload 19, 2) := by decide +kernel
theorem dL_act_569 : decode cL_act 569 = .ok (.getfield 71, 3) := by decide +kernel
theorem dL_act_572 : decode cL_act 572 = .ok (.invokevirtual 74, 3) := by decide +kernel
theorem dL_act_575 : decode cL_act 575 = .ok (.iload 20, 2) := by decide +kernel
theorem dL_act_577 : decode cL_act 577 = .ok (.if_icmp .ne 7, 3) := by decide +kernel
theorem dL_act_580 : decode cL_act 580 = .ok (.iconst 1, 1) := by decide +kernel
theorem dL_act_581 : decode cL_act 581 = .ok (.goto 4, 3) := by decide +kernel
theorem dL_act_584 : decode cL_act 584 = .ok (.iconst 0, 1) := by decide +kernel
theorem dL_act_585 : decode cL_act 585 = .ok (.ireturn, 1) := by decide +kernel

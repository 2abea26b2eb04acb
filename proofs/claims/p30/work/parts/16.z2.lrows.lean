theorem dL_goesOn_415 : decode cL_goesOn 415 = .ok (.iconst 0, 1) := by decide +kernel
theorem dL_goesOn_416 : decode cL_goesOn 416 = .ok (.goto 18, 3) := by decide +kernel
theorem dL_goesOn_419 : decode cL_goesOn 419 = .ok (.iload 12, 2) := by decide +kernel
theorem dL_goesOn_421 : decode cL_goesOn 421 = .ok (.sipush 1000, 3) := by decide +kernel
theorem dL_goesOn_424 : decode cL_goesOn 424 = .ok (.if_icmp .le 8, 3) := by decide +kernel
theorem dL_goesOn_427 : decode cL_goesOn 427 = .ok (.bipush (-9), 2) := by decide +kernel
theorem dL_goesOn_429 : decode cL_goesOn 429 = .ok (.goto 5, 3) := by decide +kernel
theorem dL_goesOn_432 : decode cL_goesOn 432 = .ok (.bipush (-8), 2) := by decide +kernel
theorem dL_goesOn_434 : decode cL_goesOn 434 = .ok (.if_icmp .ne 51, 3) := by decide +kernel
theorem dL_goesOn_437 : decode cL_goesOn 437 = .ok (.iload 13, 2) := by decide +kernel
theorem dL_goesOn_439 : decode cL_goesOn 439 = .ok (.ifCond .eq 15, 3) := by decide +kernel
theorem dL_goesOn_442 : decode cL_goesOn 442 = .ok (.aload_n 0, 1) := by decide +kernel
theorem dL_goesOn_443 : decode cL_goesOn 443 = .ok (.iload_n 1, 1) := by decide +kernel
theorem dL_goesOn_444 : decode cL_goesOn 444 = .ok (.invokevirtual 68, 3) := by decide +kernel
theorem dL_goesOn_447 : decode cL_goesOn 447 = .ok (.iconst 3, 1) := by decide +kernel
theorem dL_goesOn_448 : decode cL_goesOn 448 = .ok (.if_icmp .le 37, 3) := by decide +kernel
theorem dL_goesOn_451 : decode cL_goesOn 451 = .ok (.goto 12, 3) := by decide +kernel
theorem dL_goesOn_454 : decode cL_goesOn 454 = .ok (.aload_n 0, 1) := by decide +kernel
theorem dL_goesOn_455 : decode cL_goesOn 455 = .ok (.iload_n 1, 1) := by decide +kernel
theorem dL_goesOn_456 : decode cL_goesOn 456 = .ok (.invokevirtual 68, 3) := by decide +kernel
theorem dL_goesOn_459 : decode cL_goesOn 459 = .ok (.iconst 3, 1) := by decide +kernel
theorem dL_goesOn_460 : decode cL_goesOn 460 = .ok (.if_icmp .ne 25, 3) := by decide +kernel
theorem dL_goesOn_463 : decode cL_goesOn 463 = .ok (.aload_n 0, 1) := by decide +kernel
theorem dL_goesOn_464 : decode cL_goesOn 464 = .ok (.bipush 7, 2) := by decide +kernel
theorem dL_goesOn_466 : decode cL_goesOn 466 = .ok (.iload_n 1, 1) := by decide +kernel
theorem dL_goesOn_467 : decode cL_goesOn 467 = .ok (.iload 11, 2) := by decide +kernel
theorem dL_goesOn_469 : decode cL_goesOn 469 = .ok (.aload 7, 2) := by decide +kernel
theorem dL_goesOn_471 : decode cL_goesOn 471 = .ok (.iconst 0, 1) := by decide +kernel
theorem dL_goesOn_472 : decode cL_goesOn 472 = .ok (.iaload, 1) := by decide +kernel
theorem dL_goesOn_473 : decode cL_goesOn 473 = .ok (.invokestatic 96, 3) := by decide +kernel
theorem dL_goesOn_476 : decode cL_goesOn 476 = .ok (.bipush (-9), 2) := by decide +kernel
theorem dL_goesOn_478 : decode cL_goesOn 478 = .ok (.if_icmp .ne 7, 3) := by decide +kernel
theorem dL_goesOn_481 : decode cL_goesOn 481 = .ok (.iconst 1, 1) := by decide +kernel
theorem dL_goesOn_482 : decode cL_goesOn 482 = .ok (.goto 4, 3) := by decide +kernel
theorem dL_goesOn_485 : decode cL_goesOn 485 = .ok (.iconst 0, 1) := by decide +kernel
theorem dL_goesOn_486 : decode cL_goesOn 486 = .ok (.ireturn, 1) := by decide +kernel
theorem dL_goesOn_487 : decode cL_goesOn 487 = .ok (.iload 9, 2) := by decide +kernel
theorem dL_goesOn_489 : decode cL_goesOn 489 = .ok (.iconst 4, 1) := by decide +kernel
theorem dL_goesOn_490 : decode cL_goesOn 490 = .ok (.if_icmp .ne 84, 3) := by decide +kernel
theorem dL_goesOn_493 : decode cL_goesOn 493 = .ok (.aload_n 0, 1) := by decide +kernel
theorem dL_goesOn_494 : decode cL_goesOn 494 = .ok (.bipush 8, 2) := by decide +kernel
theorem dL_goesOn_496 : decode cL_goesOn 496 = .ok (.iload_n 1, 1) := by decide +kernel
theorem dL_goesOn_497 : decode cL_goesOn 497 = .ok (.iload 10, 2) := by decide +kernel
theorem dL_goesOn_499 : decode cL_goesOn 499 = .ok (.iconst 0, 1) := by decide +kernel
theorem dL_goesOn_500 : decode cL_goesOn 500 = .ok (.invokestatic 96, 3) := by decide +kernel
theorem dL_goesOn_503 : decode cL_goesOn 503 = .ok (.istore 11, 2) := by decide +kernel
theorem dL_goesOn_505 : decode cL_goesOn 505 = .ok (.iload 11, 2) := by decide +kernel
theorem dL_goesOn_507 : decode cL_goesOn 507 = .ok (.ifCond .lt 65, 3) := by decide +kernel
theorem dL_goesOn_510 : decode cL_goesOn 510 = .ok (.iload 11, 2) := by decide +kernel
theorem dL_goesOn_512 : decode cL_goesOn 512 = .ok (.bipush 6, 2) := by decide +kernel
theorem dL_goesOn_514 : decode cL_goesOn 514 = .ok (.if_icmp .ge 58, 3) := by decide +kernel
theorem dL_goesOn_517 : decode cL_goesOn 517 = .ok (.iload 11, 2) := by decide +kernel
theorem dL_goesOn_519 : decode cL_goesOn 519 = .ok (.ifCond .ne 15, 3) := by decide +kernel
theorem dL_goesOn_522 : decode cL_goesOn 522 = .ok (.aload_n 0, 1) := by decide +kernel
theorem dL_goesOn_523 : decode cL_goesOn 523 = .ok (.iload_n 1, 1) := by decide +kernel
theorem dL_goesOn_524 : decode cL_goesOn 524 = .ok (.invokevirtual 68, 3) := by decide +kernel
theorem dL_goesOn_527 : decode cL_goesOn 527 = .ok (.iconst 5, 1) := by decide +kernel
theorem dL_goesOn_528 : decode cL_goesOn 528 = .ok (.if_icmp .ne 44, 3) := by decide +kernel
theorem dL_goesOn_531 : decode cL_goesOn 531 = .ok (.goto 22, 3) := by decide +kernel
theorem dL_goesOn_534 : decode cL_goesOn 534 = .ok (.aload_n 0, 1) := by decide +kernel
theorem dL_goesOn_535 : decode cL_goesOn 535 = .ok (.iload_n 1, 1) := by decide +kernel
theorem dL_goesOn_536 : decode cL_goesOn 536 = .ok (.invokevirtual 68, 3) := by decide +kernel
theorem dL_goesOn_539 : decode cL_goesOn 539 = .ok (.iconst 4, 1) := by decide +kernel
theorem dL_goesOn_540 : decode cL_goesOn 540 = .ok (.if_icmp .ne 32, 3) := by decide +kernel
theorem dL_goesOn_543 : decode cL_goesOn 543 = .ok (.aload_n 0, 1) := by decide +kernel
theorem dL_goesOn_544 : decode cL_goesOn 544 = .ok (.iload_n 1, 1) := by decide +kernel
theorem dL_goesOn_545 : decode cL_goesOn 545 = .ok (.invokevirtual 71, 3) := by decide +kernel
theorem dL_goesOn_548 : decode cL_goesOn 548 = .ok (.iload 10, 2) := by decide +kernel
theorem dL_goesOn_550 : decode cL_goesOn 550 = .ok (.if_icmp .le 22, 3) := by decide +kernel
theorem dL_goesOn_553 : decode cL_goesOn 553 = .ok (.aload_n 0, 1) := by decide +kernel
theorem dL_goesOn_554 : decode cL_goesOn 554 = .ok (.bipush 8, 2) := by decide +kernel
theorem dL_goesOn_556 : decode cL_goesOn 556 = .ok (.iload_n 1, 1) := by decide +kernel
theorem dL_goesOn_557 : decode cL_goesOn 557 = .ok (.iload 10, 2) := by decide +kernel
theorem dL_goesOn_559 : decode cL_goesOn 559 = .ok (.iconst 0, 1) := by decide +kernel
theorem dL_goesOn_560 : decode cL_goesOn 560 = .ok (.invokestatic 96, 3) := by decide +kernel
theorem dL_goesOn_563 : decode cL_goesOn 563 = .ok (.bipush (-8), 2) := by decide +kernel
theorem dL_goesOn_565 : decode cL_goesOn 565 = .ok (.if_icmp .ne 7, 3) := by decide +kernel
theorem dL_goesOn_568 : decode cL_goesOn 568 = .ok (.iconst 1, 1) := by decide +kernel
theorem dL_goesOn_569 : decode cL_goesOn 569 = .ok (.goto 4, 3) := by decide +kernel
theorem dL_goesOn_572 : decode cL_goesOn 572 = .ok (.iconst 0, 1) := by decide +kernel
theorem dL_goesOn_573 : decode cL_goesOn 573 = .ok (.ireturn, 1) := by decide +kernel
theorem dL_goesOn_574 : decode cL_goesOn 574 = .ok (.aload_n 0, 1) := by decide +kernel
theorem dL_goesOn_575 : decode cL_goesOn 575 = .ok (.iconst 5, 1) := by decide +kernel
theorem dL_goesOn_576 : decode cL_goesOn 576 = .ok (.iload_n 1, 1) := by decide +kernel
theorem dL_goesOn_577 : decode cL_goesOn 577 = .ok (.iload_n 2, 1) := by decide +kernel
theorem dL_goesOn_578 : decode cL_goesOn 578 = .ok (.bipush 6, 2) := by decide +kernel
theorem dL_goesOn_580 : decode cL_goesOn 580 = .ok (.irem, 1) := by decide +kernel
theorem dL_goesOn_581 : decode cL_goesOn 581 = .ok (.iconst 0, 1) := by decide +kernel
theorem dL_goesOn_582 : decode cL_goesOn 582 = .ok (.invokestatic 96, 3) := by decide +kernel
theorem dL_goesOn_585 : decode cL_goesOn 585 = .ok (.bipush (-8), 2) := by decide +kernel
theorem dL_goesOn_587 : decode cL_goesOn 587 = .ok (.if_icmp .ne 89, 3) := by decide +kernel
theorem dL_goesOn_590 : decode cL_goesOn 590 = .ok (.aload_n 0, 1) := by decide +kernel
theorem dL_goesOn_591 : decode cL_goesOn 591 = .ok (.bipush 7, 2) := by decide +kernel
theorem dL_goesOn_593 : decode cL_goesOn 593 = .ok (.iload_n 1, 1) := by decide +kernel
theorem dL_goesOn_594 : decode cL_goesOn 594 = .ok (.iload_n 2, 1) := by decide +kernel
theorem dL_goesOn_595 : decode cL_goesOn 595 = .ok (.bipush 6, 2) := by decide +kernel
theorem dL_goesOn_597 : decode cL_goesOn 597 = .ok (.irem, 1) := by decide +kernel
theorem dL_goesOn_598 : decode cL_goesOn 598 = .ok (.aload 7, 2) := by decide +kernel
theorem dL_goesOn_600 : decode cL_goesOn 600 = .ok (.iconst 0, 1) := by decide +kernel
theorem dL_goesOn_601 : decode cL_goesOn 601 = .ok (.iaload, 1) := by decide +kernel
theorem dL_goesOn_602 : decode cL_goesOn 602 = .ok (.iconst 1, 1) := by decide +kernel
theorem dL_goesOn_603 : decode cL_goesOn 603 = .ok (.iadd, 1) := by decide +kernel
theorem dL_goesOn_604 : decode cL_goesOn 604 = .ok (.sipush 1000, 3) := by decide +kernel
theorem dL_goesOn_607 : decode cL_goesOn 607 = .ok (.if_icmp .le 9, 3) := by decide +kernel
theorem dL_goesOn_610 : decode cL_goesOn 610 = .ok (.sipush 1000, 3) := by decide +kernel
theorem dL_goesOn_613 : decode cL_goesOn 613 = .ok (.goto 9, 3) := by decide +kernel
theorem dL_goesOn_616 : decode cL_goesOn 616 = .ok (.aload 7, 2) := by decide +kernel
theorem dL_goesOn_618 : decode cL_goesOn 618 = .ok (.iconst 0, 1) := by decide +kernel
theorem dL_goesOn_619 : decode cL_goesOn 619 = .ok (.iaload, 1) := by decide +kernel
theorem dL_goesOn_620 : decode cL_goesOn 620 = .ok (.iconst 1, 1) := by decide +kernel
theorem dL_goesOn_621 : decode cL_goesOn 621 = .ok (.iadd, 1) := by decide +kernel
theorem dL_goesOn_622 : decode cL_goesOn 622 = .ok (.invokestatic 96, 3) := by decide +kernel
theorem dL_goesOn_625 : decode cL_goesOn 625 = .ok (.aload 7, 2) := by decide +kernel
theorem dL_goesOn_627 : decode cL_goesOn 627 = .ok (.iconst 0, 1) := by decide +kernel
theorem dL_goesOn_628 : decode cL_goesOn 628 = .ok (.iaload, 1) := by decide +kernel
theorem dL_goesOn_629 : decode cL_goesOn 629 = .ok (.sipush 1000, 3) := by decide +kernel
theorem dL_goesOn_632 : decode cL_goesOn 632 = .ok (.if_icmp .ne 8, 3) := by decide +kernel
theorem dL_goesOn_635 : decode cL_goesOn 635 = .ok (.bipush (-9), 2) := by decide +kernel
theorem dL_goesOn_637 : decode cL_goesOn 637 = .ok (.goto 5, 3) := by decide +kernel
theorem dL_goesOn_640 : decode cL_goesOn 640 = .ok (.bipush (-8), 2) := by decide +kernel
theorem dL_goesOn_642 : decode cL_goesOn 642 = .ok (.if_icmp .ne 34, 3) := by decide +kernel
theorem dL_goesOn_645 : decode cL_goesOn 645 = .ok (.aload_n 0, 1) := by decide +kernel
theorem dL_goesOn_646 : decode cL_goesOn 646 = .ok (.bipush 8, 2) := by decide +kernel
theorem dL_goesOn_648 : decode cL_goesOn 648 = .ok (.iload_n 1, 1) := by decide +kernel
theorem dL_goesOn_649 : decode cL_goesOn 649 = .ok (.iload_n 2, 1) := by decide +kernel
theorem dL_goesOn_650 : decode cL_goesOn 650 = .ok (.bipush 6, 2) := by decide +kernel
theorem dL_goesOn_652 : decode cL_goesOn 652 = .ok (.irem, 1) := by decide +kernel
theorem dL_goesOn_653 : decode cL_goesOn 653 = .ok (.iconst 0, 1) := by decide +kernel
theorem dL_goesOn_654 : decode cL_goesOn 654 = .ok (.invokestatic 96, 3) := by decide +kernel
theorem dL_goesOn_657 : decode cL_goesOn 657 = .ok (.bipush (-8), 2) := by decide +kernel
theorem dL_goesOn_659 : decode cL_goesOn 659 = .ok (.if_icmp .ne 17, 3) := by decide +kernel
theorem dL_goesOn_662 : decode cL_goesOn 662 = .ok (.aload_n 0, 1) := by decide +kernel
theorem dL_goesOn_663 : decode cL_goesOn 663 = .ok (.iload_n 1, 1) := by decide +kernel
theorem dL_goesOn_664 : decode cL_goesOn 664 = .ok (.invokevirtual 68, 3) := by decide +kernel
theorem dL_goesOn_667 : decode cL_goesOn 667 = .ok (.iload 9, 2) := by decide +kernel
theorem dL_goesOn_669 : decode cL_goesOn 669 = .ok (.if_icmp .ne 7, 3) := by decide +kernel
theorem dL_goesOn_672 : decode cL_goesOn 672 = .ok (.iconst 1, 1) := by decide +kernel
theorem dL_goesOn_673 : decode cL_goesOn 673 = .ok (.goto 4, 3) := by decide +kernel
theorem dL_goesOn_676 : decode cL_goesOn 676 = .ok (.iconst 0, 1) := by decide +kernel
theorem dL_goesOn_677 : decode cL_goesOn 677 = .ok (.ireturn, 1) := by decide +kernel
set_option maxRecDepth 20000 in
theorem ggL_passes_X3_step : GoodIn wsL_passes wsX3_step := goodIn_ca (goodIn_r _ [5, 6, 7, 8, 9, 10, 4, 11, 12, 13, 14, 15, 16, 17, 18, 19, 20, 21, 22, 23, 24, 25, 26, 27, 28, 29, 30, 31, 32, 33, 34, 35, 36, 37, 38, 39, 107, 108, 109, 110, 111, 112, 113, 114, 115, 116, 117, 118, 119, 120, 121, 122, 123, 124, 125, 126, 127, 128, 129, 130, 131, 132, 133, 134, 135] (by decide +kernel) (by decide +kernel)) (goodIn_sub (fun _ h => List.mem_cons_of_mem _ (List.mem_append_left _ (List.mem_append_left _ (List.mem_append_right _ h)))) (by decide +kernel))
set_option maxRecDepth 20000 in
theorem gL_passes_X3_step : GoodIn wsL_passes (wsV RL 68 RX3 yX3_step wsX3_step) := goodIn_app (goodIn_of _ (by decide +kernel)) ggL_passes_X3_step
set_option maxRecDepth 20000 in
theorem ggL_passes_X3_pass : GoodIn wsL_passes wsX3_pass := goodIn_ca (goodIn_ca (goodIn_r _ [43, 44, 45, 46, 47, 48, 4, 49, 50, 51, 52, 53, 54, 55, 14, 56, 57, 58, 59, 60, 61, 62, 63, 64, 65, 66, 67, 68, 69, 18, 70, 71, 72, 16, 17, 19, 20, 21, 22, 23, 24, 25, 26, 27, 28, 29, 30, 31, 32, 33, 34, 35, 36, 37, 38, 39, 73, 74, 75, 76, 77, 78, 79, 80, 81, 82, 83, 84, 85, 86, 87, 88, 116, 117, 118, 119, 120, 121, 122, 123, 107, 108, 109, 110, 111, 112, 113, 114, 115, 124, 125, 126, 127, 128, 129, 130, 131, 132, 133, 134, 135] (by decide +kernel) (by decide +kernel)) (goodIn_sub (fun _ h => List.mem_cons_of_mem _ (List.mem_append_left _ (List.mem_append_right _ h))) (by decide +kernel))) (goodIn_sub (fun _ h => List.mem_cons_of_mem _ (List.mem_append_right _ h)) (by decide +kernel))
set_option maxRecDepth 20000 in
theorem gL_passes_X3_pass : GoodIn wsL_passes (wsV RL 107 RX3 yX3_pass wsX3_pass) := goodIn_app (goodIn_of _ (by decide +kernel)) ggL_passes_X3_pass
set_option maxRecDepth 20000 in
theorem ggL_passes_L_size : GoodIn wsL_passes wsL_size := goodIn_r _ [92] (by decide +kernel) (by decide +kernel)
set_option maxRecDepth 20000 in
theorem gL_passes_L_size : GoodIn wsL_passes (va_wsS RL 100 yL_size wsL_size) := goodIn_app (goodIn_of _ (by decide +kernel)) ggL_passes_L_size
set_option maxRecDepth 20000 in
theorem ggL_passes_L_has : GoodIn wsL_passes wsL_has := goodIn_r _ [95] (by decide +kernel) (by decide +kernel)
set_option maxRecDepth 20000 in
theorem gL_passes_L_has : GoodIn wsL_passes (va_wsS RL 92 yL_has wsL_has) := goodIn_app (goodIn_of _ (by decide +kernel)) ggL_passes_L_has
set_option maxRecDepth 20000 in
theorem ggL_passes_X3_text : GoodIn wsL_passes wsX3_text := goodIn_ca (goodIn_r _ [99, 100, 8, 9, 10, 4, 11, 12, 13, 14, 85, 86, 87, 59, 88, 63, 107, 108, 109, 110, 111, 112, 113, 114, 115, 116, 117, 118, 119, 120, 121, 122, 123] (by decide +kernel) (by decide +kernel)) (goodIn_sub (fun _ h => List.mem_cons_of_mem _ (List.mem_append_left _ (List.mem_append_left _ (List.mem_append_right _ h)))) (by decide +kernel))
set_option maxRecDepth 20000 in
theorem gL_passes_X3_text : GoodIn wsL_passes (wsV RL 86 RX3 yX3_text wsX3_text) := goodIn_app (goodIn_of _ (by decide +kernel)) ggL_passes_X3_text
set_option maxRecDepth 20000 in
theorem ggL_passes_X3_since : GoodIn wsL_passes wsX3_since := goodIn_ca (goodIn_r _ [104, 12, 13, 105, 106, 8, 9, 10, 4, 11, 14, 107, 108, 109, 110, 111, 112, 113, 114, 115, 116, 117, 118, 119, 120, 121, 122, 123] (by decide +kernel) (by decide +kernel)) (goodIn_sub (fun _ h => List.mem_cons_of_mem _ (List.mem_append_left _ (List.mem_append_left _ (List.mem_append_right _ h)))) (by decide +kernel))
set_option maxRecDepth 20000 in
theorem gL_passes_X3_since : GoodIn wsL_passes (wsV RL 89 RX3 yX3_since wsX3_since) := goodIn_app (goodIn_of _ (by decide +kernel)) ggL_passes_X3_since
theorem dL_passes_0 : decode cL_passes 0 = .ok (.iconst 0, 1) := by decide +kernel
theorem dL_passes_1 : decode cL_passes 1 = .ok (.istore 5, 2) := by decide +kernel
theorem dL_passes_3 : decode cL_passes 3 = .ok (.iconst 0, 1) := by decide +kernel
theorem dL_passes_4 : decode cL_passes 4 = .ok (.istore 6, 2) := by decide +kernel
theorem dL_passes_6 : decode cL_passes 6 = .ok (.iconst 0, 1) := by decide +kernel
theorem dL_passes_7 : decode cL_passes 7 = .ok (.istore 7, 2) := by decide +kernel
theorem dL_passes_9 : decode cL_passes 9 = .ok (.iload 7, 2) := by decide +kernel
theorem dL_passes_11 : decode cL_passes 11 = .ok (.aload 4, 2) := by decide +kernel
theorem dL_passes_13 : decode cL_passes 13 = .ok (.iconst 1, 1) := by decide +kernel
theorem dL_passes_14 : decode cL_passes 14 = .ok (.iaload, 1) := by decide +kernel
theorem dL_passes_15 : decode cL_passes 15 = .ok (.if_icmp .ge 50, 3) := by decide +kernel
theorem dL_passes_18 : decode cL_passes 18 = .ok (.iload 5, 2) := by decide +kernel
theorem dL_passes_20 : decode cL_passes 20 = .ok (.aload_n 0, 1) := by decide +kernel
theorem dL_passes_21 : decode cL_passes 21 = .ok (.iload 7, 2) := by decide +kernel
theorem dL_passes_23 : decode cL_passes 23 = .ok (.invokevirtual 68, 3) := by decide +kernel
theorem dL_passes_26 : decode cL_passes 26 = .ok (.iconst 5, 1) := by decide +kernel
theorem dL_passes_27 : decode cL_passes 27 = .ok (.if_icmp .ne 28, 3) := by decide +kernel
theorem dL_passes_30 : decode cL_passes 30 = .ok (.aload_n 1, 1) := by decide +kernel
theorem dL_passes_31 : decode cL_passes 31 = .ok (.bipush 8, 2) := by decide +kernel
theorem dL_passes_33 : decode cL_passes 33 = .ok (.iload 7, 2) := by decide +kernel
theorem dL_passes_35 : decode cL_passes 35 = .ok (.imul, 1) := by decide +kernel
theorem dL_passes_36 : decode cL_passes 36 = .ok (.iconst 4, 1) := by decide +kernel
theorem dL_passes_37 : decode cL_passes 37 = .ok (.iadd, 1) := by decide +kernel
theorem dL_passes_38 : decode cL_passes 38 = .ok (.iaload, 1) := by decide +kernel
theorem dL_passes_39 : decode cL_passes 39 = .ok (.aload 4, 2) := by decide +kernel
theorem dL_passes_41 : decode cL_passes 41 = .ok (.iconst 0, 1) := by decide +kernel
theorem dL_passes_42 : decode cL_passes 42 = .ok (.iaload, 1) := by decide +kernel
theorem dL_passes_43 : decode cL_passes 43 = .ok (.iconst 1, 1) := by decide +kernel
theorem dL_passes_44 : decode cL_passes 44 = .ok (.iadd, 1) := by decide +kernel
theorem dL_passes_45 : decode cL_passes 45 = .ok (.if_icmp .gt 10, 3) := by decide +kernel
theorem dL_passes_48 : decode cL_passes 48 = .ok (.iconst 1, 1) := by decide +kernel
theorem dL_passes_49 : decode cL_passes 49 = .ok (.iload 7, 2) := by decide +kernel
theorem dL_passes_51 : decode cL_passes 51 = .ok (.ishl, 1) := by decide +kernel
theorem dL_passes_52 : decode cL_passes 52 = .ok (.goto 4, 3) := by decide +kernel
theorem dL_passes_55 : decode cL_passes 55 = .ok (.iconst 0, 1) := by decide +kernel
theorem dL_passes_56 : decode cL_passes 56 = .ok (.ior, 1) := by decide +kernel
theorem dL_passes_57 : decode cL_passes 57 = .ok (.istore 5, 2) := by decide +kernel
theorem dL_passes_59 : decode cL_passes 59 = .ok (.iinc 7 1, 3) := by decide +kernel
theorem dL_passes_62 : decode cL_passes 62 = .ok (.goto (-53), 3) := by decide +kernel
theorem dL_passes_65 : decode cL_passes 65 = .ok (.aload_n 0, 1) := by decide +kernel
theorem dL_passes_66 : decode cL_passes 66 = .ok (.iconst 1, 1) := by decide +kernel
theorem dL_passes_67 : decode cL_passes 67 = .ok (.invokevirtual 107, 3) := by decide +kernel
theorem dL_passes_70 : decode cL_passes 70 = .ok (.iload 5, 2) := by decide +kernel
theorem dL_passes_72 : decode cL_passes 72 = .ok (.invokestatic 100, 3) := by decide +kernel
theorem dL_passes_75 : decode cL_passes 75 = .ok (.if_icmp .ne 7, 3) := by decide +kernel
theorem dL_passes_78 : decode cL_passes 78 = .ok (.iconst 1, 1) := by decide +kernel
theorem dL_passes_79 : decode cL_passes 79 = .ok (.goto 4, 3) := by decide +kernel
theorem dL_passes_82 : decode cL_passes 82 = .ok (.iconst 0, 1) := by decide +kernel
theorem dL_passes_83 : decode cL_passes 83 = .ok (.istore 7, 2) := by decide +kernel
theorem dL_passes_85 : decode cL_passes 85 = .ok (.aload 4, 2) := by decide +kernel
theorem dL_passes_87 : decode cL_passes 87 = .ok (.iconst 0, 1) := by decide +kernel
theorem dL_passes_88 : decode cL_passes 88 = .ok (.dup2, 1) := by decide +kernel
theorem dL_passes_89 : decode cL_passes 89 = .ok (.iaload, 1) := by decide +kernel
theorem dL_passes_90 : decode cL_passes 90 = .ok (.iconst 1, 1) := by decide +kernel
theorem dL_passes_91 : decode cL_passes 91 = .ok (.iadd, 1) := by decide +kernel
theorem dL_passes_92 : decode cL_passes 92 = .ok (.iastore, 1) := by decide +kernel
theorem dL_passes_93 : decode cL_passes 93 = .ok (.iconst 0, 1) := by decide +kernel
theorem dL_passes_94 : decode cL_passes 94 = .ok (.istore 8, 2) := by decide +kernel
theorem dL_passes_96 : decode cL_passes 96 = .ok (.iload 8, 2) := by decide +kernel
theorem dL_passes_98 : decode cL_passes 98 = .ok (.aload 4, 2) := by decide +kernel
theorem dL_passes_100 : decode cL_passes 100 = .ok (.iconst 1, 1) := by decide +kernel
theorem dL_passes_101 : decode cL_passes 101 = .ok (.iaload, 1) := by decide +kernel
theorem dL_passes_102 : decode cL_passes 102 = .ok (.if_icmp .ge 236, 3) := by decide +kernel
theorem dL_passes_105 : decode cL_passes 105 = .ok (.iload 5, 2) := by decide +kernel
theorem dL_passes_107 : decode cL_passes 107 = .ok (.iload 8, 2) := by decide +kernel
theorem dL_passes_109 : decode cL_passes 109 = .ok (.invokestatic 92, 3) := by decide +kernel
theorem dL_passes_112 : decode cL_passes 112 = .ok (.ifCond .eq 220, 3) := by decide +kernel
theorem dL_passes_115 : decode cL_passes 115 = .ok (.aload_n 1, 1) := by decide +kernel
theorem dL_passes_116 : decode cL_passes 116 = .ok (.bipush 8, 2) := by decide +kernel
theorem dL_passes_118 : decode cL_passes 118 = .ok (.iload 8, 2) := by decide +kernel
theorem dL_passes_120 : decode cL_passes 120 = .ok (.imul, 1) := by decide +kernel
theorem dL_passes_121 : decode cL_passes 121 = .ok (.iconst 0, 1) := by decide +kernel
theorem dL_passes_122 : decode cL_passes 122 = .ok (.iastore, 1) := by decide +kernel
theorem dL_passes_123 : decode cL_passes 123 = .ok (.aload_n 1, 1) := by decide +kernel
theorem dL_passes_124 : decode cL_passes 124 = .ok (.bipush 8, 2) := by decide +kernel
theorem dL_passes_126 : decode cL_passes 126 = .ok (.iload 8, 2) := by decide +kernel
theorem dL_passes_128 : decode cL_passes 128 = .ok (.imul, 1) := by decide +kernel
theorem dL_passes_129 : decode cL_passes 129 = .ok (.iconst 5, 1) := by decide +kernel
theorem dL_passes_130 : decode cL_passes 130 = .ok (.iadd, 1) := by decide +kernel
theorem dL_passes_131 : decode cL_passes 131 = .ok (.dup2, 1) := by decide +kernel
theorem dL_passes_132 : decode cL_passes 132 = .ok (.iaload, 1) := by decide +kernel
theorem dL_passes_133 : decode cL_passes 133 = .ok (.iconst 1, 1) := by decide +kernel
theorem dL_passes_134 : decode cL_passes 134 = .ok (.iadd, 1) := by decide +kernel
theorem dL_passes_135 : decode cL_passes 135 = .ok (.iastore, 1) := by decide +kernel
theorem dL_passes_136 : decode cL_passes 136 = .ok (.aload_n 1, 1) := by decide +kernel
theorem dL_passes_137 : decode cL_passes 137 = .ok (.bipush 8, 2) := by decide +kernel
theorem dL_passes_139 : decode cL_passes 139 = .ok (.iload 8, 2) := by decide +kernel
theorem dL_passes_141 : decode cL_passes 141 = .ok (.imul, 1) := by decide +kernel
theorem dL_passes_142 : decode cL_passes 142 = .ok (.bipush 6, 2) := by decide +kernel
theorem dL_passes_144 : decode cL_passes 144 = .ok (.iadd, 1) := by decide +kernel
theorem dL_passes_145 : decode cL_passes 145 = .ok (.aload 4, 2) := by decide +kernel
theorem dL_passes_147 : decode cL_passes 147 = .ok (.iconst 0, 1) := by decide +kernel
theorem dL_passes_148 : decode cL_passes 148 = .ok (.iaload, 1) := by decide +kernel
theorem dL_passes_149 : decode cL_passes 149 = .ok (.iastore, 1) := by decide +kernel
theorem dL_passes_150 : decode cL_passes 150 = .ok (.aload_n 1, 1) := by decide +kernel
theorem dL_passes_151 : decode cL_passes 151 = .ok (.bipush 8, 2) := by decide +kernel
theorem dL_passes_153 : decode cL_passes 153 = .ok (.iload 8, 2) := by decide +kernel
theorem dL_passes_155 : decode cL_passes 155 = .ok (.imul, 1) := by decide +kernel
theorem dL_passes_156 : decode cL_passes 156 = .ok (.bipush 7, 2) := by decide +kernel
theorem dL_passes_158 : decode cL_passes 158 = .ok (.iadd, 1) := by decide +kernel
theorem dL_passes_159 : decode cL_passes 159 = .ok (.iconst 0, 1) := by decide +kernel
theorem dL_passes_160 : decode cL_passes 160 = .ok (.iastore, 1) := by decide +kernel
theorem dL_passes_161 : decode cL_passes 161 = .ok (.iconst 0, 1) := by decide +kernel
theorem dL_passes_162 : decode cL_passes 162 = .ok (.istore 9, 2) := by decide +kernel
theorem dL_passes_164 : decode cL_passes 164 = .ok (.iload 9, 2) := by decide +kernel
theorem dL_passes_166 : decode cL_passes 166 = .ok (.aload 4, 2) := by decide +kernel
theorem dL_passes_168 : decode cL_passes 168 = .ok (.iconst 1, 1) := by decide +kernel
theorem dL_passes_169 : decode cL_passes 169 = .ok (.iaload, 1) := by decide +kernel
theorem dL_passes_170 : decode cL_passes 170 = .ok (.if_icmp .ge 57, 3) := by decide +kernel
theorem dL_passes_173 : decode cL_passes 173 = .ok (.aload_n 1, 1) := by decide +kernel
theorem dL_passes_174 : decode cL_passes 174 = .ok (.bipush 8, 2) := by decide +kernel
theorem dL_passes_176 : decode cL_passes 176 = .ok (.iload 9, 2) := by decide +kernel
theorem dL_passes_178 : decode cL_passes 178 = .ok (.imul, 1) := by decide +kernel
theorem dL_passes_179 : decode cL_passes 179 = .ok (.bipush 7, 2) := by decide +kernel
theorem dL_passes_181 : decode cL_passes 181 = .ok (.iadd, 1) := by decide +kernel
theorem dL_passes_182 : decode cL_passes 182 = .ok (.aload_n 2, 1) := by decide +kernel
theorem dL_passes_183 : decode cL_passes 183 = .ok (.iload 9, 2) := by decide +kernel
theorem dL_passes_185 : decode cL_passes 185 = .ok (.iaload, 1) := by decide +kernel
theorem dL_passes_186 : decode cL_passes 186 = .ok (.iload 8, 2) := by decide +kernel
theorem dL_passes_188 : decode cL_passes 188 = .ok (.invokestatic 92, 3) := by decide +kernel
theorem dL_passes_191 : decode cL_passes 191 = .ok (.ifCond .eq 19, 3) := by decide +kernel
theorem dL_passes_194 : decode cL_passes 194 = .ok (.aload_n 1, 1) := by decide +kernel
theorem dL_passes_195 : decode cL_passes 195 = .ok (.bipush 8, 2) := by decide +kernel
theorem dL_passes_197 : decode cL_passes 197 = .ok (.iload 9, 2) := by decide +kernel
theorem dL_passes_199 : decode cL_passes 199 = .ok (.imul, 1) := by decide +kernel
theorem dL_passes_200 : decode cL_passes 200 = .ok (.iconst 5, 1) := by decide +kernel
theorem dL_passes_201 : decode cL_passes 201 = .ok (.iadd, 1) := by decide +kernel
theorem dL_passes_202 : decode cL_passes 202 = .ok (.iaload, 1) := by decide +kernel
theorem dL_passes_203 : decode cL_passes 203 = .ok (.ifCond .le 7, 3) := by decide +kernel
theorem dL_passes_206 : decode cL_passes 206 = .ok (.iconst 1, 1) := by decide +kernel
theorem dL_passes_207 : decode cL_passes 207 = .ok (.goto 13, 3) := by decide +kernel
theorem dL_passes_210 : decode cL_passes 210 = .ok (.aload_n 1, 1) := by decide +kernel
theorem dL_passes_211 : decode cL_passes 211 = .ok (.bipush 8, 2) := by decide +kernel
theorem dL_passes_213 : decode cL_passes 213 = .ok (.iload 9, 2) := by decide +kernel
theorem dL_passes_215 : decode cL_passes 215 = .ok (.imul, 1) := by decide +kernel
theorem dL_passes_216 : decode cL_passes 216 = .ok (.bipush 7, 2) := by decide +kernel
theorem dL_passes_218 : decode cL_passes 218 = .ok (.iadd, 1) := by decide +kernel
theorem dL_passes_219 : decode cL_passes 219 = .ok (.iaload, 1) := by decide +kernel
theorem dL_passes_220 : decode cL_passes 220 = .ok (.iastore, 1) := by decide +kernel
theorem dL_passes_221 : decode cL_passes 221 = .ok (.iinc 9 1, 3) := by decide +kernel
theorem dL_passes_224 : decode cL_passes 224 = .ok (.goto (-60), 3) := by decide +kernel
theorem dL_passes_227 : decode cL_passes 227 = .ok (.iload 7, 2) := by decide +kernel
theorem dL_passes_229 : decode cL_passes 229 = .ok (.ifCond .eq 49, 3) := by decide +kernel
theorem dL_passes_232 : decode cL_passes 232 = .ok (.aload_n 0, 1) := by decide +kernel
theorem dL_passes_233 : decode cL_passes 233 = .ok (.iload 8, 2) := by decide +kernel
theorem dL_passes_235 : decode cL_passes 235 = .ok (.invokevirtual 86, 3) := by decide +kernel
theorem dL_passes_238 : decode cL_passes 238 = .ok (.aload_n 1, 1) := by decide +kernel
theorem dL_passes_239 : decode cL_passes 239 = .ok (.bipush 8, 2) := by decide +kernel
theorem dL_passes_241 : decode cL_passes 241 = .ok (.iload 8, 2) := by decide +kernel
theorem dL_passes_243 : decode cL_passes 243 = .ok (.imul, 1) := by decide +kernel
theorem dL_passes_244 : decode cL_passes 244 = .ok (.iconst 2, 1) := by decide +kernel
theorem dL_passes_245 : decode cL_passes 245 = .ok (.iadd, 1) := by decide +kernel
theorem dL_passes_246 : decode cL_passes 246 = .ok (.iaload, 1) := by decide +kernel
theorem dL_passes_247 : decode cL_passes 247 = .ok (.if_icmp .ne 31, 3) := by decide +kernel
theorem dL_passes_250 : decode cL_passes 250 = .ok (.aload_n 0, 1) := by decide +kernel
theorem dL_passes_251 : decode cL_passes 251 = .ok (.iload 8, 2) := by decide +kernel
theorem dL_passes_253 : decode cL_passes 253 = .ok (.aload_n 1, 1) := by decide +kernel
theorem dL_passes_254 : decode cL_passes 254 = .ok (.bipush 8, 2) := by decide +kernel
theorem dL_passes_256 : decode cL_passes 256 = .ok (.iload 8, 2) := by decide +kernel
theorem dL_passes_258 : decode cL_passes 258 = .ok (.imul, 1) := by decide +kernel
theorem dL_passes_259 : decode cL_passes 259 = .ok (.iconst 5, 1) := by decide +kernel
theorem dL_passes_260 : decode cL_passes 260 = .ok (.iadd, 1) := by decide +kernel
theorem dL_passes_261 : decode cL_passes 261 = .ok (.iaload, 1) := by decide +kernel
theorem dL_passes_262 : decode cL_passes 262 = .ok (.iconst 1, 1) := by decide +kernel
theorem dL_passes_263 : decode cL_passes 263 = .ok (.isub, 1) := by decide +kernel
theorem dL_passes_264 : decode cL_passes 264 = .ok (.invokevirtual 89, 3) := by decide +kernel
theorem dL_passes_267 : decode cL_passes 267 = .ok (.aload 4, 2) := by decide +kernel
theorem dL_passes_269 : decode cL_passes 269 = .ok (.iconst 0, 1) := by decide +kernel
theorem dL_passes_270 : decode cL_passes 270 = .ok (.iaload, 1) := by decide +kernel
theorem dL_passes_271 : decode cL_passes 271 = .ok (.if_icmp .ne 7, 3) := by decide +kernel
theorem dL_passes_274 : decode cL_passes 274 = .ok (.iconst 1, 1) := by decide +kernel
theorem dL_passes_275 : decode cL_passes 275 = .ok (.goto 4, 3) := by decide +kernel
theorem dL_passes_278 : decode cL_passes 278 = .ok (.iconst 0, 1) := by decide +kernel
theorem dL_passes_279 : decode cL_passes 279 = .ok (.istore 7, 2) := by decide +kernel
theorem dL_passes_281 : decode cL_passes 281 = .ok (.aload_n 1, 1) := by decide +kernel
theorem dL_passes_282 : decode cL_passes 282 = .ok (.bipush 8, 2) := by decide +kernel
theorem dL_passes_284 : decode cL_passes 284 = .ok (.iload 8, 2) := by decide +kernel
theorem dL_passes_286 : decode cL_passes 286 = .ok (.imul, 1) := by decide +kernel
theorem dL_passes_287 : decode cL_passes 287 = .ok (.iconst 5, 1) := by decide +kernel
theorem dL_passes_288 : decode cL_passes 288 = .ok (.iadd, 1) := by decide +kernel
theorem dL_passes_289 : decode cL_passes 289 = .ok (.iaload, 1) := by decide +kernel
theorem dL_passes_290 : decode cL_passes 290 = .ok (.istore 6, 2) := by decide +kernel
theorem dL_passes_292 : decode cL_passes 292 = .ok (.aload_n 3, 1) := by decide +kernel
theorem dL_passes_293 : decode cL_passes 293 = .ok (.bipush 8, 2) := by decide +kernel
theorem dL_passes_295 : decode cL_passes 295 = .ok (.iload 8, 2) := by decide +kernel
theorem dL_passes_297 : decode cL_passes 297 = .ok (.imul, 1) := by decide +kernel
theorem dL_passes_298 : decode cL_passes 298 = .ok (.iload 6, 2) := by decide +kernel
theorem dL_passes_300 : decode cL_passes 300 = .ok (.iconst 1, 1) := by decide +kernel
theorem dL_passes_301 : decode cL_passes 301 = .ok (.isub, 1) := by decide +kernel
theorem dL_passes_302 : decode cL_passes 302 = .ok (.iconst 4, 1) := by decide +kernel
theorem dL_passes_303 : decode cL_passes 303 = .ok (.irem, 1) := by decide +kernel
theorem dL_passes_304 : decode cL_passes 304 = .ok (.iconst 2, 1) := by decide +kernel
theorem dL_passes_305 : decode cL_passes 305 = .ok (.imul, 1) := by decide +kernel
theorem dL_passes_306 : decode cL_passes 306 = .ok (.iadd, 1) := by decide +kernel
theorem dL_passes_307 : decode cL_passes 307 = .ok (.aload 4, 2) := by decide +kernel
theorem dL_passes_309 : decode cL_passes 309 = .ok (.iconst 0, 1) := by decide +kernel
theorem dL_passes_310 : decode cL_passes 310 = .ok (.iaload, 1) := by decide +kernel
theorem dL_passes_311 : decode cL_passes 311 = .ok (.iastore, 1) := by decide +kernel
theorem dL_passes_312 : decode cL_passes 312 = .ok (.aload_n 3, 1) := by decide +kernel
theorem dL_passes_313 : decode cL_passes 313 = .ok (.bipush 8, 2) := by decide +kernel
theorem dL_passes_315 : decode cL_passes 315 = .ok (.iload 8, 2) := by decide +kernel
theorem dL_passes_317 : decode cL_passes 317 = .ok (.imul, 1) := by decide +kernel
theorem dL_passes_318 : decode cL_passes 318 = .ok (.iload 6, 2) := by decide +kernel
theorem dL_passes_320 : decode cL_passes 320 = .ok (.iconst 1, 1) := by decide +kernel
theorem dL_passes_321 : decode cL_passes 321 = .ok (.isub, 1) := by decide +kernel
theorem dL_passes_322 : decode cL_passes 322 = .ok (.iconst 4, 1) := by decide +kernel
theorem dL_passes_323 : decode cL_passes 323 = .ok (.irem, 1) := by decide +kernel
theorem dL_passes_324 : decode cL_passes 324 = .ok (.iconst 2, 1) := by decide +kernel
theorem dL_passes_325 : decode cL_passes 325 = .ok (.imul, 1) := by decide +kernel
theorem dL_passes_326 : decode cL_passes 326 = .ok (.iadd, 1) := by decide +kernel
theorem dL_passes_327 : decode cL_passes 327 = .ok (.iconst 1, 1) := by decide +kernel
theorem dL_passes_328 : decode cL_passes 328 = .ok (.iadd, 1) := by decide +kernel
theorem dL_passes_329 : decode cL_passes 329 = .ok (.iload 6, 2) := by decide +kernel
theorem dL_passes_331 : decode cL_passes 331 = .ok (.iastore, 1) := by decide +kernel
theorem dL_passes_332 : decode cL_passes 332 = .ok (.iinc 8 1, 3) := by decide +kernel
theorem dL_passes_335 : decode cL_passes 335 = .ok (.goto (-239), 3) := by decide +kernel
theorem dL_passes_338 : decode cL_passes 338 = .ok (.iconst 0, 1) := by decide +kernel
theorem dL_passes_339 : decode cL_passes 339 = .ok (.istore 8, 2) := by decide +kernel
theorem dL_passes_341 : decode cL_passes 341 = .ok (.iload 8, 2) := by decide +kernel
theorem dL_passes_343 : decode cL_passes 343 = .ok (.bipush 32, 2) := by decide +kernel
theorem dL_passes_345 : decode cL_passes 345 = .ok (.if_icmp .ge 59, 3) := by decide +kernel
theorem dL_passes_348 : decode cL_passes 348 = .ok (.iload 7, 2) := by decide +kernel
theorem dL_passes_350 : decode cL_passes 350 = .ok (.ifCond .eq 54, 3) := by decide +kernel
theorem dL_passes_353 : decode cL_passes 353 = .ok (.aload_n 3, 1) := by decide +kernel
theorem dL_passes_354 : decode cL_passes 354 = .ok (.iconst 2, 1) := by decide +kernel
theorem dL_passes_355 : decode cL_passes 355 = .ok (.iload 8, 2) := by decide +kernel
theorem dL_passes_357 : decode cL_passes 357 = .ok (.imul, 1) := by decide +kernel
theorem dL_passes_358 : decode cL_passes 358 = .ok (.iconst 1, 1) := by decide +kernel
theorem dL_passes_359 : decode cL_passes 359 = .ok (.iadd, 1) := by decide +kernel
theorem dL_passes_360 : decode cL_passes 360 = .ok (.iaload, 1) := by decide +kernel
theorem dL_passes_361 : decode cL_passes 361 = .ok (.ifCond .eq 30, 3) := by decide +kernel
theorem dL_passes_364 : decode cL_passes 364 = .ok (.aload_n 0, 1) := by decide +kernel
theorem dL_passes_365 : decode cL_passes 365 = .ok (.iload 8, 2) := by decide +kernel
theorem dL_passes_367 : decode cL_passes 367 = .ok (.iconst 4, 1) := by decide +kernel
theorem dL_passes_368 : decode cL_passes 368 = .ok (.idiv, 1) := by decide +kernel
theorem dL_passes_369 : decode cL_passes 369 = .ok (.aload_n 3, 1) := by decide +kernel
theorem dL_passes_370 : decode cL_passes 370 = .ok (.iconst 2, 1) := by decide +kernel
theorem dL_passes_371 : decode cL_passes 371 = .ok (.iload 8, 2) := by decide +kernel
theorem dL_passes_373 : decode cL_passes 373 = .ok (.imul, 1) := by decide +kernel
theorem dL_passes_374 : decode cL_passes 374 = .ok (.iconst 1, 1) := by decide +kernel
theorem dL_passes_375 : decode cL_passes 375 = .ok (.iadd, 1) := by decide +kernel
theorem dL_passes_376 : decode cL_passes 376 = .ok (.iaload, 1) := by decide +kernel
theorem dL_passes_377 : decode cL_passes 377 = .ok (.iconst 1, 1) := by decide +kernel
theorem dL_passes_378 : decode cL_passes 378 = .ok (.isub, 1) := by decide +kernel
theorem dL_passes_379 : decode cL_passes 379 = .ok (.invokevirtual 89, 3) := by decide +kernel
theorem dL_passes_382 : decode cL_passes 382 = .ok (.aload_n 3, 1) := by decide +kernel
theorem dL_passes_383 : decode cL_passes 383 = .ok (.iconst 2, 1) := by decide +kernel
theorem dL_passes_384 : decode cL_passes 384 = .ok (.iload 8, 2) := by decide +kernel
theorem dL_passes_386 : decode cL_passes 386 = .ok (.imul, 1) := by decide +kernel
theorem dL_passes_387 : decode cL_passes 387 = .ok (.iaload, 1) := by decide +kernel
theorem dL_passes_388 : decode cL_passes 388 = .ok (.if_icmp .ne 7, 3) := by decide +kernel
theorem dL_passes_391 : decode cL_passes 391 = .ok (.iconst 1, 1) := by decide +kernel
theorem dL_passes_392 : decode cL_passes 392 = .ok (.goto 4, 3) := by decide +kernel
theorem dL_passes_395 : decode cL_passes 395 = .ok (.iconst 0, 1) := by decide +kernel
theorem dL_passes_396 : decode cL_passes 396 = .ok (.istore 7, 2) := by decide +kernel
theorem dL_passes_398 : decode cL_passes 398 = .ok (.iinc 8 1, 3) := by decide +kernel
theorem dL_passes_401 : decode cL_passes 401 = .ok (.goto (-60), 3) := by decide +kernel
theorem dL_passes_404 : decode cL_passes 404 = .ok (.iload 7, 2) := by decide +kernel
theorem dL_passes_406 : decode cL_passes 406 = .ok (.ireturn, 1) := by decide +kernel
set_option maxRecDepth 20000 in
theorem ggL_copies_L_asks : GoodIn wsL_copies wsL_asks := goodIn_ca (goodIn_ca (goodIn_ca (goodIn_r _ [4, 5, 6, 7, 8, 9, 3, 10, 11, 12, 13, 14, 15, 16, 17, 18, 19, 20, 21, 22, 23, 24, 25, 26, 27, 28, 29, 30, 31, 32, 33, 34, 35, 36, 37, 38, 39, 40, 41, 42, 43, 44, 45, 46, 47, 48, 49, 50, 51, 52, 53, 54, 55, 56, 57, 58, 59, 60, 61, 62, 63, 64, 65, 66, 67, 68, 69, 70, 71, 72, 73, 74, 75, 76, 77, 78, 79, 80, 81, 82, 83, 84, 85, 86, 87, 88, 89, 90, 91, 92, 93, 94, 95, 96, 97, 98, 99, 100, 101, 102, 103, 104, 105, 106, 107, 108, 109, 110, 111, 112, 113, 114, 115, 116, 117, 118, 119, 120, 121, 122, 123, 124, 125, 126, 127, 128, 129, 130, 131, 132, 133, 134, 135, 136, 137, 138, 139, 140, 141, 142, 143, 144, 145, 146, 147, 148, 149, 150, 151, 152, 153, 154, 155, 156, 157, 158, 159, 160, 161, 162, 163, 164, 165, 166, 167, 168, 169, 170, 171, 172, 173, 174, 175, 176, 177, 178, 179, 180, 181, 182, 183, 184, 185, 186, 187, 192, 193, 194, 195, 196, 197, 198, 199, 200, 201, 202, 203, 204, 205, 206, 207, 208, 209, 210, 211, 212, 213, 214, 215, 216, 217, 218, 219, 220, 221, 222, 223, 224] (by decide +kernel) (by decide +kernel)) (goodIn_sub (fun _ h => List.mem_cons_of_mem _ (List.mem_append_left _ (List.mem_append_left _ (List.mem_append_right _ h)))) (by decide +kernel))) (goodIn_sub (fun _ h => List.mem_cons_of_mem _ (List.mem_append_left _ (List.mem_append_right _ h))) (by decide +kernel))) (goodIn_sub (fun _ h => List.mem_cons_of_mem _ (List.mem_append_right _ h)) (by decide +kernel))
set_option maxRecDepth 20000 in
theorem gL_copies_L_asks : GoodIn wsL_copies (va_wsS RL 96 yL_asks wsL_asks) := goodIn_app (goodIn_of _ (by decide +kernel)) ggL_copies_L_asks
set_option maxRecDepth 20000 in
theorem ggL_copies_X3_isDue : GoodIn wsL_copies wsX3_isDue := goodIn_ca (goodIn_r _ [191, 121, 148, 20, 21, 22, 14, 23, 24, 25, 26, 158, 159, 160, 155, 161, 157, 162, 163, 201, 202, 203, 204, 205, 206, 207, 208, 192, 193, 194, 195, 196, 197, 198, 199, 200] (by decide +kernel) (by decide +kernel)) (goodIn_sub (fun _ h => List.mem_cons_of_mem _ (List.mem_append_left _ (List.mem_append_right _ h))) (by decide +kernel))
set_option maxRecDepth 20000 in
theorem gL_copies_X3_isDue : GoodIn wsL_copies (wsV RL 80 RX3 yX3_isDue wsX3_isDue) := goodIn_app (goodIn_of _ (by decide +kernel)) ggL_copies_X3_isDue
theorem dL_copies_0 : decode cL_copies 0 = .ok (.iload_n 1, 1) := by decide +kernel
theorem dL_copies_1 : decode cL_copies 1 = .ok (.ifCond .ne 145, 3) := by decide +kernel
theorem dL_copies_4 : decode cL_copies 4 = .ok (.aload 4, 2) := by decide +kernel
theorem dL_copies_6 : decode cL_copies 6 = .ok (.bipush 8, 2) := by decide +kernel
theorem dL_copies_8 : decode cL_copies 8 = .ok (.iload_n 2, 1) := by decide +kernel
theorem dL_copies_9 : decode cL_copies 9 = .ok (.imul, 1) := by decide +kernel
theorem dL_copies_10 : decode cL_copies 10 = .ok (.iconst 5, 1) := by decide +kernel
theorem dL_copies_11 : decode cL_copies 11 = .ok (.iadd, 1) := by decide +kernel
theorem dL_copies_12 : decode cL_copies 12 = .ok (.iaload, 1) := by decide +kernel
theorem dL_copies_13 : decode cL_copies 13 = .ok (.ifCond .le 16, 3) := by decide +kernel
theorem dL_copies_16 : decode cL_copies 16 = .ok (.aload 5, 2) := by decide +kernel
theorem dL_copies_18 : decode cL_copies 18 = .ok (.iconst 3, 1) := by decide +kernel
theorem dL_copies_19 : decode cL_copies 19 = .ok (.iaload, 1) := by decide +kernel
theorem dL_copies_20 : decode cL_copies 20 = .ok (.bipush 20, 2) := by decide +kernel
theorem dL_copies_22 : decode cL_copies 22 = .ok (.if_icmp .ge 7, 3) := by decide +kernel
theorem dL_copies_25 : decode cL_copies 25 = .ok (.iconst 1, 1) := by decide +kernel
theorem dL_copies_26 : decode cL_copies 26 = .ok (.goto 4, 3) := by decide +kernel
theorem dL_copies_29 : decode cL_copies 29 = .ok (.iconst 0, 1) := by decide +kernel
theorem dL_copies_30 : decode cL_copies 30 = .ok (.istore 7, 2) := by decide +kernel
theorem dL_copies_32 : decode cL_copies 32 = .ok (.aload 5, 2) := by decide +kernel
theorem dL_copies_34 : decode cL_copies 34 = .ok (.iconst 3, 1) := by decide +kernel
theorem dL_copies_35 : decode cL_copies 35 = .ok (.iaload, 1) := by decide +kernel
theorem dL_copies_36 : decode cL_copies 36 = .ok (.bipush 20, 2) := by decide +kernel
theorem dL_copies_38 : decode cL_copies 38 = .ok (.if_icmp .ne 5, 3) := by decide +kernel
theorem dL_copies_41 : decode cL_copies 41 = .ok (.iconst 1, 1) := by decide +kernel
theorem dL_copies_42 : decode cL_copies 42 = .ok (.ireturn, 1) := by decide +kernel
theorem dL_copies_43 : decode cL_copies 43 = .ok (.aload_n 0, 1) := by decide +kernel
theorem dL_copies_44 : decode cL_copies 44 = .ok (.bipush 10, 2) := by decide +kernel
theorem dL_copies_46 : decode cL_copies 46 = .ok (.iload_n 2, 1) := by decide +kernel
theorem dL_copies_47 : decode cL_copies 47 = .ok (.iload_n 3, 1) := by decide +kernel
theorem dL_copies_48 : decode cL_copies 48 = .ok (.bipush 10, 2) := by decide +kernel
theorem dL_copies_50 : decode cL_copies 50 = .ok (.irem, 1) := by decide +kernel
theorem dL_copies_51 : decode cL_copies 51 = .ok (.iconst 0, 1) := by decide +kernel
theorem dL_copies_52 : decode cL_copies 52 = .ok (.invokestatic 96, 3) := by decide +kernel
theorem dL_copies_55 : decode cL_copies 55 = .ok (.istore 8, 2) := by decide +kernel
theorem dL_copies_57 : decode cL_copies 57 = .ok (.iload 7, 2) := by decide +kernel
theorem dL_copies_59 : decode cL_copies 59 = .ok (.ifCond .eq 60, 3) := by decide +kernel
theorem dL_copies_62 : decode cL_copies 62 = .ok (.aload 6, 2) := by decide +kernel
theorem dL_copies_64 : decode cL_copies 64 = .ok (.iconst 3, 1) := by decide +kernel
theorem dL_copies_65 : decode cL_copies 65 = .ok (.aload 5, 2) := by decide +kernel
theorem dL_copies_67 : decode cL_copies 67 = .ok (.iconst 3, 1) := by decide +kernel
theorem dL_copies_68 : decode cL_copies 68 = .ok (.iaload, 1) := by decide +kernel
theorem dL_copies_69 : decode cL_copies 69 = .ok (.imul, 1) := by decide +kernel
theorem dL_copies_70 : decode cL_copies 70 = .ok (.iload_n 2, 1) := by decide +kernel
theorem dL_copies_71 : decode cL_copies 71 = .ok (.iastore, 1) := by decide +kernel
theorem dL_copies_72 : decode cL_copies 72 = .ok (.aload 6, 2) := by decide +kernel
theorem dL_copies_74 : decode cL_copies 74 = .ok (.iconst 3, 1) := by decide +kernel
theorem dL_copies_75 : decode cL_copies 75 = .ok (.aload 5, 2) := by decide +kernel
theorem dL_copies_77 : decode cL_copies 77 = .ok (.iconst 3, 1) := by decide +kernel
theorem dL_copies_78 : decode cL_copies 78 = .ok (.iaload, 1) := by decide +kernel
theorem dL_copies_79 : decode cL_copies 79 = .ok (.imul, 1) := by decide +kernel
theorem dL_copies_80 : decode cL_copies 80 = .ok (.iconst 1, 1) := by decide +kernel
theorem dL_copies_81 : decode cL_copies 81 = .ok (.iadd, 1) := by decide +kernel
theorem dL_copies_82 : decode cL_copies 82 = .ok (.aload 4, 2) := by decide +kernel
theorem dL_copies_84 : decode cL_copies 84 = .ok (.bipush 8, 2) := by decide +kernel
theorem dL_copies_86 : decode cL_copies 86 = .ok (.iload_n 2, 1) := by decide +kernel
theorem dL_copies_87 : decode cL_copies 87 = .ok (.imul, 1) := by decide +kernel
theorem dL_copies_88 : decode cL_copies 88 = .ok (.iconst 5, 1) := by decide +kernel
theorem dL_copies_89 : decode cL_copies 89 = .ok (.iadd, 1) := by decide +kernel
theorem dL_copies_90 : decode cL_copies 90 = .ok (.iaload, 1) := by decide +kernel
theorem dL_copies_91 : decode cL_copies 91 = .ok (.iconst 1, 1) := by decide +kernel
theorem dL_copies_92 : decode cL_copies 92 = .ok (.isub, 1) := by decide +kernel
theorem dL_copies_93 : decode cL_copies 93 = .ok (.iastore, 1) := by decide +kernel
theorem dL_copies_94 : decode cL_copies 94 = .ok (.aload 6, 2) := by decide +kernel
theorem dL_copies_96 : decode cL_copies 96 = .ok (.iconst 3, 1) := by decide +kernel
theorem dL_copies_97 : decode cL_copies 97 = .ok (.aload 5, 2) := by decide +kernel
theorem dL_copies_99 : decode cL_copies 99 = .ok (.iconst 3, 1) := by decide +kernel
theorem dL_copies_100 : decode cL_copies 100 = .ok (.iaload, 1) := by decide +kernel
theorem dL_copies_101 : decode cL_copies 101 = .ok (.imul, 1) := by decide +kernel
theorem dL_copies_102 : decode cL_copies 102 = .ok (.iconst 2, 1) := by decide +kernel
theorem dL_copies_103 : decode cL_copies 103 = .ok (.iadd, 1) := by decide +kernel
theorem dL_copies_104 : decode cL_copies 104 = .ok (.iload_n 3, 1) := by decide +kernel
theorem dL_copies_105 : decode cL_copies 105 = .ok (.bipush 10, 2) := by decide +kernel
theorem dL_copies_107 : decode cL_copies 107 = .ok (.irem, 1) := by decide +kernel
theorem dL_copies_108 : decode cL_copies 108 = .ok (.iconst 1, 1) := by decide +kernel
theorem dL_copies_109 : decode cL_copies 109 = .ok (.iadd, 1) := by decide +kernel
theorem dL_copies_110 : decode cL_copies 110 = .ok (.iastore, 1) := by decide +kernel
theorem dL_copies_111 : decode cL_copies 111 = .ok (.aload 5, 2) := by decide +kernel
theorem dL_copies_113 : decode cL_copies 113 = .ok (.iconst 3, 1) := by decide +kernel
theorem dL_copies_114 : decode cL_copies 114 = .ok (.dup2, 1) := by decide +kernel
theorem dL_copies_115 : decode cL_copies 115 = .ok (.iaload, 1) := by decide +kernel
theorem dL_copies_116 : decode cL_copies 116 = .ok (.iconst 1, 1) := by decide +kernel
theorem dL_copies_117 : decode cL_copies 117 = .ok (.iadd, 1) := by decide +kernel
theorem dL_copies_118 : decode cL_copies 118 = .ok (.iastore, 1) := by decide +kernel
theorem dL_copies_119 : decode cL_copies 119 = .ok (.iload 8, 2) := by decide +kernel
theorem dL_copies_121 : decode cL_copies 121 = .ok (.iload 7, 2) := by decide +kernel
theorem dL_copies_123 : decode cL_copies 123 = .ok (.ifCond .eq 12, 3) := by decide +kernel
theorem dL_copies_126 : decode cL_copies 126 = .ok (.aload 5, 2) := by decide +kernel
theorem dL_copies_128 : decode cL_copies 128 = .ok (.iconst 3, 1) := by decide +kernel
theorem dL_copies_129 : decode cL_copies 129 = .ok (.iaload, 1) := by decide +kernel
theorem dL_copies_130 : decode cL_copies 130 = .ok (.iconst 1, 1) := by decide +kernel
theorem dL_copies_131 : decode cL_copies 131 = .ok (.isub, 1) := by decide +kernel
theorem dL_copies_132 : decode cL_copies 132 = .ok (.goto 5, 3) := by decide +kernel
theorem dL_copies_135 : decode cL_copies 135 = .ok (.bipush (-8), 2) := by decide +kernel
theorem dL_copies_137 : decode cL_copies 137 = .ok (.if_icmp .ne 7, 3) := by decide +kernel
theorem dL_copies_140 : decode cL_copies 140 = .ok (.iconst 1, 1) := by decide +kernel
theorem dL_copies_141 : decode cL_copies 141 = .ok (.goto 4, 3) := by decide +kernel
theorem dL_copies_144 : decode cL_copies 144 = .ok (.iconst 0, 1) := by decide +kernel
theorem dL_copies_145 : decode cL_copies 145 = .ok (.ireturn, 1) := by decide +kernel
theorem dL_copies_146 : decode cL_copies 146 = .ok (.iload_n 1, 1) := by decide +kernel
theorem dL_copies_147 : decode cL_copies 147 = .ok (.iconst 1, 1) := by decide +kernel
theorem dL_copies_148 : decode cL_copies 148 = .ok (.if_icmp .ne 101, 3) := by decide +kernel
theorem dL_copies_151 : decode cL_copies 151 = .ok (.iload_n 3, 1) := by decide +kernel
theorem dL_copies_152 : decode cL_copies 152 = .ok (.bipush 20, 2) := by decide +kernel
theorem dL_copies_154 : decode cL_copies 154 = .ok (.irem, 1) := by decide +kernel
theorem dL_copies_155 : decode cL_copies 155 = .ok (.istore 7, 2) := by decide +kernel
theorem dL_copies_157 : decode cL_copies 157 = .ok (.aload_n 0, 1) := by decide +kernel
theorem dL_copies_158 : decode cL_copies 158 = .ok (.bipush 11, 2) := by decide +kernel
theorem dL_copies_160 : decode cL_copies 160 = .ok (.iload 7, 2) := by decide +kernel
theorem dL_copies_162 : decode cL_copies 162 = .ok (.iconst 0, 1) := by decide +kernel
theorem dL_copies_163 : decode cL_copies 163 = .ok (.iconst 0, 1) := by decide +kernel
theorem dL_copies_164 : decode cL_copies 164 = .ok (.invokestatic 96, 3) := by decide +kernel
theorem dL_copies_167 : decode cL_copies 167 = .ok (.istore 8, 2) := by decide +kernel
theorem dL_copies_169 : decode cL_copies 169 = .ok (.iload 7, 2) := by decide +kernel
theorem dL_copies_171 : decode cL_copies 171 = .ok (.aload 5, 2) := by decide +kernel
theorem dL_copies_173 : decode cL_copies 173 = .ok (.iconst 3, 1) := by decide +kernel
theorem dL_copies_174 : decode cL_copies 174 = .ok (.iaload, 1) := by decide +kernel
theorem dL_copies_175 : decode cL_copies 175 = .ok (.if_icmp .ge 17, 3) := by decide +kernel
theorem dL_copies_178 : decode cL_copies 178 = .ok (.aload 6, 2) := by decide +kernel
theorem dL_copies_180 : decode cL_copies 180 = .ok (.iconst 3, 1) := by decide +kernel
theorem dL_copies_181 : decode cL_copies 181 = .ok (.iload 7, 2) := by decide +kernel
theorem dL_copies_183 : decode cL_copies 183 = .ok (.imul, 1) := by decide +kernel
theorem dL_copies_184 : decode cL_copies 184 = .ok (.iconst 2, 1) := by decide +kernel
theorem dL_copies_185 : decode cL_copies 185 = .ok (.iadd, 1) := by decide +kernel
theorem dL_copies_186 : decode cL_copies 186 = .ok (.iaload, 1) := by decide +kernel
theorem dL_copies_187 : decode cL_copies 187 = .ok (.iconst 1, 1) := by decide +kernel
theorem dL_copies_188 : decode cL_copies 188 = .ok (.isub, 1) := by decide +kernel
theorem dL_copies_189 : decode cL_copies 189 = .ok (.goto 4, 3) := by decide +kernel
theorem dL_copies_192 : decode cL_copies 192 = .ok (.iconst (-1), 1) := by decide +kernel
theorem dL_copies_193 : decode cL_copies 193 = .ok (.istore 9, 2) := by decide +kernel
theorem dL_copies_195 : decode cL_copies 195 = .ok (.aload 6, 2) := by decide +kernel
theorem dL_copies_197 : decode cL_copies 197 = .ok (.iconst 3, 1) := by decide +kernel
theorem dL_copies_198 : decode cL_copies 198 = .ok (.iload 7, 2) := by decide +kernel
theorem dL_copies_200 : decode cL_copies 200 = .ok (.imul, 1) := by decide +kernel
theorem dL_copies_201 : decode cL_copies 201 = .ok (.iconst 2, 1) := by decide +kernel
theorem dL_copies_202 : decode cL_copies 202 = .ok (.iadd, 1) := by decide +kernel
theorem dL_copies_203 : decode cL_copies 203 = .ok (.iload 7, 2) := by decide +kernel
theorem dL_copies_205 : decode cL_copies 205 = .ok (.aload 5, 2) := by decide +kernel
theorem dL_copies_207 : decode cL_copies 207 = .ok (.iconst 3, 1) := by decide +kernel
theorem dL_copies_208 : decode cL_copies 208 = .ok (.iaload, 1) := by decide +kernel
theorem dL_copies_209 : decode cL_copies 209 = .ok (.if_icmp .ge 7, 3) := by decide +kernel
theorem dL_copies_212 : decode cL_copies 212 = .ok (.iconst 0, 1) := by decide +kernel
theorem dL_copies_213 : decode cL_copies 213 = .ok (.goto 12, 3) := by decide +kernel
theorem dL_copies_216 : decode cL_copies 216 = .ok (.aload 6, 2) := by decide +kernel
theorem dL_copies_218 : decode cL_copies 218 = .ok (.iconst 3, 1) := by decide +kernel
theorem dL_copies_219 : decode cL_copies 219 = .ok (.iload 7, 2) := by decide +kernel
theorem dL_copies_221 : decode cL_copies 221 = .ok (.imul, 1) := by decide +kernel
theorem dL_copies_222 : decode cL_copies 222 = .ok (.iconst 2, 1) := by decide +kernel
theorem dL_copies_223 : decode cL_copies 223 = .ok (.iadd, 1) := by decide +kernel
theorem dL_copies_224 : decode cL_copies 224 = .ok (.iaload, 1) := by decide +kernel
theorem dL_copies_225 : decode cL_copies 225 = .ok (.iastore, 1) := by decide +kernel
theorem dL_copies_226 : decode cL_copies 226 = .ok (.iload 8, 2) := by decide +kernel
theorem dL_copies_228 : decode cL_copies 228 = .ok (.iload 9, 2) := by decide +kernel
theorem dL_copies_230 : decode cL_copies 230 = .ok (.ifCond .ge 8, 3) := by decide +kernel
theorem dL_copies_233 : decode cL_copies 233 = .ok (.bipush (-7), 2) := by decide +kernel
theorem dL_copies_235 : decode cL_copies 235 = .ok (.goto 5, 3) := by decide +kernel
theorem dL_copies_238 : decode cL_copies 238 = .ok (.iload 9, 2) := by decide +kernel
theorem dL_copies_240 : decode cL_copies 240 = .ok (.if_icmp .ne 7, 3) := by decide +kernel
theorem dL_copies_243 : decode cL_copies 243 = .ok (.iconst 1, 1) := by decide +kernel
theorem dL_copies_244 : decode cL_copies 244 = .ok (.goto 4, 3) := by decide +kernel
theorem dL_copies_247 : decode cL_copies 247 = .ok (.iconst 0, 1) := by decide +kernel
theorem dL_copies_248 : decode cL_copies 248 = .ok (.ireturn, 1) := by decide +kernel
theorem dL_copies_249 : decode cL_copies 249 = .ok (.aload_n 0, 1) := by decide +kernel
theorem dL_copies_250 : decode cL_copies 250 = .ok (.iload_n 2, 1) := by decide +kernel
theorem dL_copies_251 : decode cL_copies 251 = .ok (.invokevirtual 80, 3) := by decide +kernel
theorem dL_copies_254 : decode cL_copies 254 = .ok (.istore 7, 2) := by decide +kernel
theorem dL_copies_256 : decode cL_copies 256 = .ok (.aload_n 0, 1) := by decide +kernel
theorem dL_copies_257 : decode cL_copies 257 = .ok (.bipush 9, 2) := by decide +kernel
theorem dL_copies_259 : decode cL_copies 259 = .ok (.iload_n 2, 1) := by decide +kernel
theorem dL_copies_260 : decode cL_copies 260 = .ok (.iconst 0, 1) := by decide +kernel
theorem dL_copies_261 : decode cL_copies 261 = .ok (.iconst 0, 1) := by decide +kernel
theorem dL_copies_262 : decode cL_copies 262 = .ok (.invokestatic 96, 3) := by decide +kernel
theorem dL_copies_265 : decode cL_copies 265 = .ok (.istore 8, 2) := by decide +kernel
theorem dL_copies_267 : decode cL_copies 267 = .ok (.aload 4, 2) := by decide +kernel
theorem dL_copies_269 : decode cL_copies 269 = .ok (.bipush 8, 2) := by decide +kernel
theorem dL_copies_271 : decode cL_copies 271 = .ok (.iload_n 2, 1) := by decide +kernel
theorem dL_copies_272 : decode cL_copies 272 = .ok (.imul, 1) := by decide +kernel
theorem dL_copies_273 : decode cL_copies 273 = .ok (.bipush 6, 2) := by decide +kernel
theorem dL_copies_275 : decode cL_copies 275 = .ok (.iadd, 1) := by decide +kernel
theorem dL_copies_276 : decode cL_copies 276 = .ok (.aload 4, 2) := by decide +kernel
theorem dL_copies_278 : decode cL_copies 278 = .ok (.bipush 8, 2) := by decide +kernel
theorem dL_copies_280 : decode cL_copies 280 = .ok (.iload_n 2, 1) := by decide +kernel
theorem dL_copies_281 : decode cL_copies 281 = .ok (.imul, 1) := by decide +kernel
theorem dL_copies_282 : decode cL_copies 282 = .ok (.iconst 5, 1) := by decide +kernel
theorem dL_copies_283 : decode cL_copies 283 = .ok (.iadd, 1) := by decide +kernel
theorem dL_copies_284 : decode cL_copies 284 = .ok (.iaload, 1) := by decide +kernel
theorem dL_copies_285 : decode cL_copies 285 = .ok (.ifCond .le 10, 3) := by decide +kernel
theorem dL_copies_288 : decode cL_copies 288 = .ok (.aload 5, 2) := by decide +kernel
theorem dL_copies_290 : decode cL_copies 290 = .ok (.iconst 0, 1) := by decide +kernel
theorem dL_copies_291 : decode cL_copies 291 = .ok (.iaload, 1) := by decide +kernel
theorem dL_copies_292 : decode cL_copies 292 = .ok (.goto 13, 3) := by decide +kernel
theorem dL_copies_295 : decode cL_copies 295 = .ok (.aload 4, 2) := by decide +kernel
theorem dL_copies_297 : decode cL_copies 297 = .ok (.bipush 8, 2) := by decide +kernel
theorem dL_copies_299 : decode cL_copies 299 = .ok (.iload_n 2, 1) := by decide +kernel
theorem dL_copies_300 : decode cL_copies 300 = .ok (.imul, 1) := by decide +kernel
theorem dL_copies_301 : decode cL_copies 301 = .ok (.bipush 6, 2) := by decide +kernel
theorem dL_copies_303 : decode cL_copies 303 = .ok (.iadd, 1) := by decide +kernel
theorem dL_copies_304 : decode cL_copies 304 = .ok (.iaload, 1) := by decide +kernel
theorem dL_copies_305 : decode cL_copies 305 = .ok (.iastore, 1) := by decide +kernel
theorem dL_copies_306 : decode cL_copies 306 = .ok (.aload 4, 2) := by decide +kernel
theorem dL_copies_308 : decode cL_copies 308 = .ok (.bipush 8, 2) := by decide +kernel
theorem dL_copies_310 : decode cL_copies 310 = .ok (.iload_n 2, 1) := by decide +kernel
theorem dL_copies_311 : decode cL_copies 311 = .ok (.imul, 1) := by decide +kernel
theorem dL_copies_312 : decode cL_copies 312 = .ok (.bipush 7, 2) := by decide +kernel
theorem dL_copies_314 : decode cL_copies 314 = .ok (.iadd, 1) := by decide +kernel
theorem dL_copies_315 : decode cL_copies 315 = .ok (.iconst 0, 1) := by decide +kernel
theorem dL_copies_316 : decode cL_copies 316 = .ok (.iastore, 1) := by decide +kernel
theorem dL_copies_317 : decode cL_copies 317 = .ok (.iload 8, 2) := by decide +kernel
theorem dL_copies_319 : decode cL_copies 319 = .ok (.aload 4, 2) := by decide +kernel
theorem dL_copies_321 : decode cL_copies 321 = .ok (.bipush 8, 2) := by decide +kernel
theorem dL_copies_323 : decode cL_copies 323 = .ok (.iload_n 2, 1) := by decide +kernel
theorem dL_copies_324 : decode cL_copies 324 = .ok (.imul, 1) := by decide +kernel
theorem dL_copies_325 : decode cL_copies 325 = .ok (.iconst 5, 1) := by decide +kernel
theorem dL_copies_326 : decode cL_copies 326 = .ok (.iadd, 1) := by decide +kernel
theorem dL_copies_327 : decode cL_copies 327 = .ok (.iaload, 1) := by decide +kernel
theorem dL_copies_328 : decode cL_copies 328 = .ok (.ifCond .ne 8, 3) := by decide +kernel
theorem dL_copies_331 : decode cL_copies 331 = .ok (.bipush (-8), 2) := by decide +kernel
theorem dL_copies_333 : decode cL_copies 333 = .ok (.goto 13, 3) := by decide +kernel
theorem dL_copies_336 : decode cL_copies 336 = .ok (.iload 7, 2) := by decide +kernel
theorem dL_copies_338 : decode cL_copies 338 = .ok (.ifCond .eq 7, 3) := by decide +kernel
theorem dL_copies_341 : decode cL_copies 341 = .ok (.iconst 1, 1) := by decide +kernel
theorem dL_copies_342 : decode cL_copies 342 = .ok (.goto 4, 3) := by decide +kernel
theorem dL_copies_345 : decode cL_copies 345 = .ok (.iconst 0, 1) := by decide +kernel
theorem dL_copies_346 : decode cL_copies 346 = .ok (.if_icmp .ne 15, 3) := by decide +kernel
theorem dL_copies_349 : decode cL_copies 349 = .ok (.aload_n 0, 1) := by decide +kernel
theorem dL_copies_350 : decode cL_copies 350 = .ok (.iload_n 2, 1) := by decide +kernel
theorem dL_copies_351 : decode cL_copies 351 = .ok (.invokevirtual 80, 3) := by decide +kernel
theorem dL_copies_354 : decode cL_copies 354 = .ok (.ifCond .ne 7, 3) := by decide +kernel
theorem dL_copies_357 : decode cL_copies 357 = .ok (.iconst 1, 1) := by decide +kernel
theorem dL_copies_358 : decode cL_copies 358 = .ok (.goto 4, 3) := by decide +kernel
theorem dL_copies_361 : decode cL_copies 361 = .ok (.iconst 0, 1) := by decide +kernel
theorem dL_copies_362 : decode cL_copies 362 = .ok (.ireturn, 1) := by decide +kernel
set_option maxRecDepth 20000 in
theorem ggL_step_X3_open : GoodIn wsL_step wsX3_open := goodIn_ca (goodIn_r _ [5, 6, 7, 8, 9, 10, 11, 12, 13, 14, 15, 16, 17, 18, 19, 20, 21, 22, 23, 24, 25, 26, 27, 28, 29, 30, 31, 32, 33, 34, 35, 36, 37, 309, 310, 311, 312, 313, 314, 315, 316, 317, 318, 319, 320, 321, 322, 323, 324, 325, 326, 327, 328, 329, 330, 331, 332, 333, 334, 335, 336, 337] (by decide +kernel) (by decide +kernel)) (goodIn_sub (fun _ h => List.mem_cons_of_mem _ (List.mem_append_left _ (List.mem_append_left _ (List.mem_append_right _ h)))) (by decide +kernel))

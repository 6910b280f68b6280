theorem dX8_statement_490 : decode cX8_statement 490 = .ok (.sipush 505, 3) := by decide +kernel
theorem dX8_statement_493 : decode cX8_statement 493 = .ok (.iload_n 3, 1) := by decide +kernel
theorem dX8_statement_494 : decode cX8_statement 494 = .ok (.iastore, 1) := by decide +kernel
theorem dX8_statement_495 : decode cX8_statement 495 = .ok (.aload_n 0, 1) := by decide +kernel
theorem dX8_statement_496 : decode cX8_statement 496 = .ok (.getfield 9, 3) := by decide +kernel
theorem dX8_statement_499 : decode cX8_statement 499 = .ok (.sipush 506, 3) := by decide +kernel
theorem dX8_statement_502 : decode cX8_statement 502 = .ok (.iload 4, 2) := by decide +kernel
theorem dX8_statement_504 : decode cX8_statement 504 = .ok (.iastore, 1) := by decide +kernel
theorem dX8_statement_505 : decode cX8_statement 505 = .ok (.iload 5, 2) := by decide +kernel
theorem dX8_statement_507 : decode cX8_statement 507 = .ok (.ireturn, 1) := by decide +kernel
theorem dX8_statement_508 : decode cX8_statement 508 = .ok (.iload_n 2, 1) := by decide +kernel
theorem dX8_statement_509 : decode cX8_statement 509 = .ok (.bipush 120, 2) := by decide +kernel
theorem dX8_statement_511 : decode cX8_statement 511 = .ok (.if_icmp .ne 133, 3) := by decide +kernel
theorem dX8_statement_514 : decode cX8_statement 514 = .ok (.aload_n 0, 1) := by decide +kernel
theorem dX8_statement_515 : decode cX8_statement 515 = .ok (.bipush 48, 2) := by decide +kernel
theorem dX8_statement_517 : decode cX8_statement 517 = .ok (.bipush 57, 2) := by decide +kernel
theorem dX8_statement_519 : decode cX8_statement 519 = .ok (.invokevirtual 166, 3) := by decide +kernel
theorem dX8_statement_522 : decode cX8_statement 522 = .ok (.istore_n 3, 1) := by decide +kernel
theorem dX8_statement_523 : decode cX8_statement 523 = .ok (.bipush 10, 2) := by decide +kernel
theorem dX8_statement_525 : decode cX8_statement 525 = .ok (.aload_n 0, 1) := by decide +kernel
theorem dX8_statement_526 : decode cX8_statement 526 = .ok (.bipush 48, 2) := by decide +kernel
theorem dX8_statement_528 : decode cX8_statement 528 = .ok (.bipush 57, 2) := by decide +kernel
theorem dX8_statement_530 : decode cX8_statement 530 = .ok (.invokevirtual 166, 3) := by decide +kernel
theorem dX8_statement_533 : decode cX8_statement 533 = .ok (.imul, 1) := by decide +kernel
theorem dX8_statement_534 : decode cX8_statement 534 = .ok (.istore 4, 2) := by decide +kernel
theorem dX8_statement_536 : decode cX8_statement 536 = .ok (.iload 4, 2) := by decide +kernel
theorem dX8_statement_538 : decode cX8_statement 538 = .ok (.aload_n 0, 1) := by decide +kernel
theorem dX8_statement_539 : decode cX8_statement 539 = .ok (.bipush 48, 2) := by decide +kernel
theorem dX8_statement_541 : decode cX8_statement 541 = .ok (.bipush 57, 2) := by decide +kernel
theorem dX8_statement_543 : decode cX8_statement 543 = .ok (.invokevirtual 166, 3) := by decide +kernel
theorem dX8_statement_546 : decode cX8_statement 546 = .ok (.iadd, 1) := by decide +kernel
theorem dX8_statement_547 : decode cX8_statement 547 = .ok (.istore 4, 2) := by decide +kernel
theorem dX8_statement_549 : decode cX8_statement 549 = .ok (.aload_n 0, 1) := by decide +kernel
theorem dX8_statement_550 : decode cX8_statement 550 = .ok (.bipush 97, 2) := by decide +kernel
theorem dX8_statement_552 : decode cX8_statement 552 = .ok (.bipush 104, 2) := by decide +kernel
theorem dX8_statement_554 : decode cX8_statement 554 = .ok (.invokevirtual 166, 3) := by decide +kernel
theorem dX8_statement_557 : decode cX8_statement 557 = .ok (.istore 5, 2) := by decide +kernel
theorem dX8_statement_559 : decode cX8_statement 559 = .ok (.aload_n 0, 1) := by decide +kernel
theorem dX8_statement_560 : decode cX8_statement 560 = .ok (.bipush 59, 2) := by decide +kernel
theorem dX8_statement_562 : decode cX8_statement 562 = .ok (.bipush 59, 2) := by decide +kernel
theorem dX8_statement_564 : decode cX8_statement 564 = .ok (.invokevirtual 166, 3) := by decide +kernel
theorem dX8_statement_567 : decode cX8_statement 567 = .ok (.pop, 1) := by decide +kernel
theorem dX8_statement_568 : decode cX8_statement 568 = .ok (.aload_n 0, 1) := by decide +kernel
theorem dX8_statement_569 : decode cX8_statement 569 = .ok (.iload_n 3, 1) := by decide +kernel
theorem dX8_statement_570 : decode cX8_statement 570 = .ok (.invokevirtual 59, 3) := by decide +kernel
theorem dX8_statement_573 : decode cX8_statement 573 = .ok (.ifCond .eq 39, 3) := by decide +kernel
theorem dX8_statement_576 : decode cX8_statement 576 = .ok (.aload_n 0, 1) := by decide +kernel
theorem dX8_statement_577 : decode cX8_statement 577 = .ok (.getfield 9, 3) := by decide +kernel
theorem dX8_statement_580 : decode cX8_statement 580 = .ok (.bipush 50, 2) := by decide +kernel
theorem dX8_statement_582 : decode cX8_statement 582 = .ok (.iload_n 3, 1) := by decide +kernel
theorem dX8_statement_583 : decode cX8_statement 583 = .ok (.imul, 1) := by decide +kernel
theorem dX8_statement_584 : decode cX8_statement 584 = .ok (.iconst 4, 1) := by decide +kernel
theorem dX8_statement_585 : decode cX8_statement 585 = .ok (.iadd, 1) := by decide +kernel
theorem dX8_statement_586 : decode cX8_statement 586 = .ok (.iaload, 1) := by decide +kernel
theorem dX8_statement_587 : decode cX8_statement 587 = .ok (.bipush (-9), 2) := by decide +kernel
theorem dX8_statement_589 : decode cX8_statement 589 = .ok (.if_icmp .ne 23, 3) := by decide +kernel
theorem dX8_statement_592 : decode cX8_statement 592 = .ok (.iload 4, 2) := by decide +kernel
theorem dX8_statement_594 : decode cX8_statement 594 = .ok (.aload_n 0, 1) := by decide +kernel
theorem dX8_statement_595 : decode cX8_statement 595 = .ok (.getfield 9, 3) := by decide +kernel
theorem dX8_statement_598 : decode cX8_statement 598 = .ok (.bipush 50, 2) := by decide +kernel
theorem dX8_statement_600 : decode cX8_statement 600 = .ok (.iload_n 3, 1) := by decide +kernel
theorem dX8_statement_601 : decode cX8_statement 601 = .ok (.imul, 1) := by decide +kernel
theorem dX8_statement_602 : decode cX8_statement 602 = .ok (.iconst 5, 1) := by decide +kernel
theorem dX8_statement_603 : decode cX8_statement 603 = .ok (.iadd, 1) := by decide +kernel
theorem dX8_statement_604 : decode cX8_statement 604 = .ok (.iaload, 1) := by decide +kernel
theorem dX8_statement_605 : decode cX8_statement 605 = .ok (.if_icmp .ge 7, 3) := by decide +kernel
theorem dX8_statement_608 : decode cX8_statement 608 = .ok (.iconst 1, 1) := by decide +kernel
theorem dX8_statement_609 : decode cX8_statement 609 = .ok (.goto 4, 3) := by decide +kernel
theorem dX8_statement_612 : decode cX8_statement 612 = .ok (.iconst 0, 1) := by decide +kernel
theorem dX8_statement_613 : decode cX8_statement 613 = .ok (.istore 6, 2) := by decide +kernel
theorem dX8_statement_615 : decode cX8_statement 615 = .ok (.iload_n 1, 1) := by decide +kernel
theorem dX8_statement_616 : decode cX8_statement 616 = .ok (.ifCond .eq 25, 3) := by decide +kernel
theorem dX8_statement_619 : decode cX8_statement 619 = .ok (.iload 6, 2) := by decide +kernel
theorem dX8_statement_621 : decode cX8_statement 621 = .ok (.ifCond .eq 20, 3) := by decide +kernel
theorem dX8_statement_624 : decode cX8_statement 624 = .ok (.aload_n 0, 1) := by decide +kernel
theorem dX8_statement_625 : decode cX8_statement 625 = .ok (.getfield 9, 3) := by decide +kernel
theorem dX8_statement_628 : decode cX8_statement 628 = .ok (.bipush 50, 2) := by decide +kernel
theorem dX8_statement_630 : decode cX8_statement 630 = .ok (.iload_n 3, 1) := by decide +kernel
theorem dX8_statement_631 : decode cX8_statement 631 = .ok (.imul, 1) := by decide +kernel
theorem dX8_statement_632 : decode cX8_statement 632 = .ok (.bipush 6, 2) := by decide +kernel
theorem dX8_statement_634 : decode cX8_statement 634 = .ok (.iadd, 1) := by decide +kernel
theorem dX8_statement_635 : decode cX8_statement 635 = .ok (.iload 4, 2) := by decide +kernel
theorem dX8_statement_637 : decode cX8_statement 637 = .ok (.iadd, 1) := by decide +kernel
theorem dX8_statement_638 : decode cX8_statement 638 = .ok (.iload 5, 2) := by decide +kernel
theorem dX8_statement_640 : decode cX8_statement 640 = .ok (.iastore, 1) := by decide +kernel
theorem dX8_statement_641 : decode cX8_statement 641 = .ok (.iload 6, 2) := by decide +kernel
theorem dX8_statement_643 : decode cX8_statement 643 = .ok (.ireturn, 1) := by decide +kernel
theorem dX8_statement_644 : decode cX8_statement 644 = .ok (.aload_n 0, 1) := by decide +kernel
theorem dX8_statement_645 : decode cX8_statement 645 = .ok (.bipush 59, 2) := by decide +kernel
theorem dX8_statement_647 : decode cX8_statement 647 = .ok (.bipush 59, 2) := by decide +kernel
theorem dX8_statement_649 : decode cX8_statement 649 = .ok (.invokevirtual 166, 3) := by decide +kernel
theorem dX8_statement_652 : decode cX8_statement 652 = .ok (.pop, 1) := by decide +kernel
theorem dX8_statement_653 : decode cX8_statement 653 = .ok (.iload_n 1, 1) := by decide +kernel
theorem dX8_statement_654 : decode cX8_statement 654 = .ok (.ifCond .eq 14, 3) := by decide +kernel
theorem dX8_statement_657 : decode cX8_statement 657 = .ok (.iload_n 2, 1) := by decide +kernel
theorem dX8_statement_658 : decode cX8_statement 658 = .ok (.bipush 114, 2) := by decide +kernel
theorem dX8_statement_660 : decode cX8_statement 660 = .ok (.if_icmp .ne 8, 3) := by decide +kernel
theorem dX8_statement_663 : decode cX8_statement 663 = .ok (.aload_n 0, 1) := by decide +kernel
theorem dX8_statement_664 : decode cX8_statement 664 = .ok (.invokevirtual 133, 3) := by decide +kernel
theorem dX8_statement_667 : decode cX8_statement 667 = .ok (.pop, 1) := by decide +kernel
theorem dX8_statement_668 : decode cX8_statement 668 = .ok (.iload_n 1, 1) := by decide +kernel
theorem dX8_statement_669 : decode cX8_statement 669 = .ok (.ifCond .eq 14, 3) := by decide +kernel
theorem dX8_statement_672 : decode cX8_statement 672 = .ok (.iload_n 2, 1) := by decide +kernel
theorem dX8_statement_673 : decode cX8_statement 673 = .ok (.bipush 99, 2) := by decide +kernel
theorem dX8_statement_675 : decode cX8_statement 675 = .ok (.if_icmp .ne 8, 3) := by decide +kernel
theorem dX8_statement_678 : decode cX8_statement 678 = .ok (.aload_n 0, 1) := by decide +kernel
theorem dX8_statement_679 : decode cX8_statement 679 = .ok (.invokevirtual 151, 3) := by decide +kernel
theorem dX8_statement_682 : decode cX8_statement 682 = .ok (.pop, 1) := by decide +kernel
theorem dX8_statement_683 : decode cX8_statement 683 = .ok (.iconst 1, 1) := by decide +kernel
theorem dX8_statement_684 : decode cX8_statement 684 = .ok (.ireturn, 1) := by decide +kernel
theorem dX8_archive_0 : decode cX8_archive 0 = .ok (.aload_n 0, 1) := by decide +kernel
theorem dX8_archive_1 : decode cX8_archive 1 = .ok (.iconst 0, 1) := by decide +kernel
theorem dX8_archive_2 : decode cX8_archive 2 = .ok (.putfield 157, 3) := by decide +kernel
theorem dX8_archive_5 : decode cX8_archive 5 = .ok (.aload_n 0, 1) := by decide +kernel
theorem dX8_archive_6 : decode cX8_archive 6 = .ok (.iconst 0, 1) := by decide +kernel
theorem dX8_archive_7 : decode cX8_archive 7 = .ok (.putfield 160, 3) := by decide +kernel
theorem dX8_archive_10 : decode cX8_archive 10 = .ok (.aload_n 0, 1) := by decide +kernel
theorem dX8_archive_11 : decode cX8_archive 11 = .ok (.iconst 0, 1) := by decide +kernel
theorem dX8_archive_12 : decode cX8_archive 12 = .ok (.invokevirtual 172, 3) := by decide +kernel
theorem dX8_archive_15 : decode cX8_archive 15 = .ok (.pop, 1) := by decide +kernel
theorem dX8_archive_16 : decode cX8_archive 16 = .ok (.aload_n 0, 1) := by decide +kernel
theorem dX8_archive_17 : decode cX8_archive 17 = .ok (.getfield 160, 3) := by decide +kernel
theorem dX8_archive_20 : decode cX8_archive 20 = .ok (.ifCond .ne 14, 3) := by decide +kernel
theorem dX8_archive_23 : decode cX8_archive 23 = .ok (.aload_n 0, 1) := by decide +kernel
theorem dX8_archive_24 : decode cX8_archive 24 = .ok (.getfield 157, 3) := by decide +kernel
theorem dX8_archive_27 : decode cX8_archive 27 = .ok (.aload_n 0, 1) := by decide +kernel
theorem dX8_archive_28 : decode cX8_archive 28 = .ok (.getfield 154, 3) := by decide +kernel
theorem dX8_archive_31 : decode cX8_archive 31 = .ok (.if_icmp .lt (-21), 3) := by decide +kernel
theorem dX8_archive_34 : decode cX8_archive 34 = .ok (.iconst 0, 1) := by decide +kernel
theorem dX8_archive_35 : decode cX8_archive 35 = .ok (.istore_n 1, 1) := by decide +kernel
theorem dX8_archive_36 : decode cX8_archive 36 = .ok (.aload_n 0, 1) := by decide +kernel
theorem dX8_archive_37 : decode cX8_archive 37 = .ok (.getfield 160, 3) := by decide +kernel
theorem dX8_archive_40 : decode cX8_archive 40 = .ok (.ifCond .ne 83, 3) := by decide +kernel
theorem dX8_archive_43 : decode cX8_archive 43 = .ok (.aload_n 0, 1) := by decide +kernel
theorem dX8_archive_44 : decode cX8_archive 44 = .ok (.getfield 9, 3) := by decide +kernel
theorem dX8_archive_47 : decode cX8_archive 47 = .ok (.aload_n 0, 1) := by decide +kernel
theorem dX8_archive_48 : decode cX8_archive 48 = .ok (.getfield 19, 3) := by decide +kernel
theorem dX8_archive_51 : decode cX8_archive 51 = .ok (.invokestatic 176, 3) := by decide +kernel
theorem dX8_archive_54 : decode cX8_archive 54 = .ok (.aload_n 0, 1) := by decide +kernel
theorem dX8_archive_55 : decode cX8_archive 55 = .ok (.iconst 0, 1) := by decide +kernel
theorem dX8_archive_56 : decode cX8_archive 56 = .ok (.putfield 157, 3) := by decide +kernel
theorem dX8_archive_59 : decode cX8_archive 59 = .ok (.aload_n 0, 1) := by decide +kernel
theorem dX8_archive_60 : decode cX8_archive 60 = .ok (.getfield 157, 3) := by decide +kernel
theorem dX8_archive_63 : decode cX8_archive 63 = .ok (.aload_n 0, 1) := by decide +kernel
theorem dX8_archive_64 : decode cX8_archive 64 = .ok (.getfield 154, 3) := by decide +kernel
theorem dX8_archive_67 : decode cX8_archive 67 = .ok (.if_icmp .ge 38, 3) := by decide +kernel
theorem dX8_archive_70 : decode cX8_archive 70 = .ok (.aload_n 0, 1) := by decide +kernel
theorem dX8_archive_71 : decode cX8_archive 71 = .ok (.getfield 160, 3) := by decide +kernel
theorem dX8_archive_74 : decode cX8_archive 74 = .ok (.ifCond .ne 31, 3) := by decide +kernel
theorem dX8_archive_77 : decode cX8_archive 77 = .ok (.aload_n 0, 1) := by decide +kernel
theorem dX8_archive_78 : decode cX8_archive 78 = .ok (.getfield 157, 3) := by decide +kernel
theorem dX8_archive_81 : decode cX8_archive 81 = .ok (.istore_n 2, 1) := by decide +kernel
theorem dX8_archive_82 : decode cX8_archive 82 = .ok (.aload_n 0, 1) := by decide +kernel
theorem dX8_archive_83 : decode cX8_archive 83 = .ok (.iconst 1, 1) := by decide +kernel
theorem dX8_archive_84 : decode cX8_archive 84 = .ok (.invokevirtual 172, 3) := by decide +kernel
theorem dX8_archive_87 : decode cX8_archive 87 = .ok (.ifCond .ne 12, 3) := by decide +kernel
theorem dX8_archive_90 : decode cX8_archive 90 = .ok (.aload_n 0, 1) := by decide +kernel
theorem dX8_archive_91 : decode cX8_archive 91 = .ok (.sipush (-2000), 3) := by decide +kernel
theorem dX8_archive_94 : decode cX8_archive 94 = .ok (.iload_n 2, 1) := by decide +kernel
theorem dX8_archive_95 : decode cX8_archive 95 = .ok (.isub, 1) := by decide +kernel
theorem dX8_archive_96 : decode cX8_archive 96 = .ok (.putfield 160, 3) := by decide +kernel
theorem dX8_archive_99 : decode cX8_archive 99 = .ok (.iinc 1 1, 3) := by decide +kernel
theorem dX8_archive_102 : decode cX8_archive 102 = .ok (.goto (-43), 3) := by decide +kernel
theorem dX8_archive_105 : decode cX8_archive 105 = .ok (.aload_n 0, 1) := by decide +kernel
theorem dX8_archive_106 : decode cX8_archive 106 = .ok (.getfield 160, 3) := by decide +kernel
theorem dX8_archive_109 : decode cX8_archive 109 = .ok (.ifCond .eq 14, 3) := by decide +kernel
theorem dX8_archive_112 : decode cX8_archive 112 = .ok (.aload_n 0, 1) := by decide +kernel
theorem dX8_archive_113 : decode cX8_archive 113 = .ok (.getfield 19, 3) := by decide +kernel
theorem dX8_archive_116 : decode cX8_archive 116 = .ok (.aload_n 0, 1) := by decide +kernel
theorem dX8_archive_117 : decode cX8_archive 117 = .ok (.getfield 9, 3) := by decide +kernel
theorem dX8_archive_120 : decode cX8_archive 120 = .ok (.invokestatic 176, 3) := by decide +kernel
theorem dX8_archive_123 : decode cX8_archive 123 = .ok (.aload_n 0, 1) := by decide +kernel
theorem dX8_archive_124 : decode cX8_archive 124 = .ok (.iconst 0, 1) := by decide +kernel
theorem dX8_archive_125 : decode cX8_archive 125 = .ok (.putfield 154, 3) := by decide +kernel
theorem dX8_archive_128 : decode cX8_archive 128 = .ok (.aload_n 0, 1) := by decide +kernel
theorem dX8_archive_129 : decode cX8_archive 129 = .ok (.getfield 160, 3) := by decide +kernel
theorem dX8_archive_132 : decode cX8_archive 132 = .ok (.ifCond .eq 10, 3) := by decide +kernel
theorem dX8_archive_135 : decode cX8_archive 135 = .ok (.aload_n 0, 1) := by decide +kernel
theorem dX8_archive_136 : decode cX8_archive 136 = .ok (.getfield 160, 3) := by decide +kernel
theorem dX8_archive_139 : decode cX8_archive 139 = .ok (.goto 4, 3) := by decide +kernel
theorem dX8_archive_142 : decode cX8_archive 142 = .ok (.iload_n 1, 1) := by decide +kernel
theorem dX8_archive_143 : decode cX8_archive 143 = .ok (.ireturn, 1) := by decide +kernel
theorem dX8_isSound_0 : decode cX8_isSound 0 = .ok (.aload_n 0, 1) := by decide +kernel
theorem dX8_isSound_1 : decode cX8_isSound 1 = .ok (.iload_n 1, 1) := by decide +kernel
theorem dX8_isSound_2 : decode cX8_isSound 2 = .ok (.invokevirtual 116, 3) := by decide +kernel
theorem dX8_isSound_5 : decode cX8_isSound 5 = .ok (.aload_n 0, 1) := by decide +kernel
theorem dX8_isSound_6 : decode cX8_isSound 6 = .ok (.getfield 9, 3) := by decide +kernel
theorem dX8_isSound_9 : decode cX8_isSound 9 = .ok (.bipush 50, 2) := by decide +kernel
theorem dX8_isSound_11 : decode cX8_isSound 11 = .ok (.iload_n 1, 1) := by decide +kernel
theorem dX8_isSound_12 : decode cX8_isSound 12 = .ok (.imul, 1) := by decide +kernel
theorem dX8_isSound_13 : decode cX8_isSound 13 = .ok (.iconst 1, 1) := by decide +kernel
theorem dX8_isSound_14 : decode cX8_isSound 14 = .ok (.iadd, 1) := by decide +kernel
theorem dX8_isSound_15 : decode cX8_isSound 15 = .ok (.iaload, 1) := by decide +kernel
theorem dX8_isSound_16 : decode cX8_isSound 16 = .ok (.if_icmp .ne 7, 3) := by decide +kernel
theorem dX8_isSound_19 : decode cX8_isSound 19 = .ok (.iconst 1, 1) := by decide +kernel
theorem dX8_isSound_20 : decode cX8_isSound 20 = .ok (.goto 4, 3) := by decide +kernel
theorem dX8_isSound_23 : decode cX8_isSound 23 = .ok (.iconst 0, 1) := by decide +kernel
theorem dX8_isSound_24 : decode cX8_isSound 24 = .ok (.ireturn, 1) := by decide +kernel
theorem dX8_version_0 : decode cX8_version 0 = .ok (.aload_n 0, 1) := by decide +kernel
theorem dX8_version_1 : decode cX8_version 1 = .ok (.iload_n 1, 1) := by decide +kernel
theorem dX8_version_2 : decode cX8_version 2 = .ok (.invokevirtual 59, 3) := by decide +kernel
theorem dX8_version_5 : decode cX8_version 5 = .ok (.ifCond .ne 9, 3) := by decide +kernel
theorem dX8_version_8 : decode cX8_version 8 = .ok (.aload_n 0, 1) := by decide +kernel
theorem dX8_version_9 : decode cX8_version 9 = .ok (.iconst (-1), 1) := by decide +kernel
theorem dX8_version_10 : decode cX8_version 10 = .ok (.invokevirtual 51, 3) := by decide +kernel
theorem dX8_version_13 : decode cX8_version 13 = .ok (.ireturn, 1) := by decide +kernel
theorem dX8_version_14 : decode cX8_version 14 = .ok (.iload_n 2, 1) := by decide +kernel
theorem dX8_version_15 : decode cX8_version 15 = .ok (.iconst 0, 1) := by decide +kernel
theorem dX8_version_16 : decode cX8_version 16 = .ok (.bipush 8, 2) := by decide +kernel
theorem dX8_version_18 : decode cX8_version 18 = .ok (.invokestatic 55, 3) := by decide +kernel
theorem dX8_version_21 : decode cX8_version 21 = .ok (.ifCond .ne 10, 3) := by decide +kernel
theorem dX8_version_24 : decode cX8_version 24 = .ok (.aload_n 0, 1) := by decide +kernel
theorem dX8_version_25 : decode cX8_version 25 = .ok (.bipush (-2), 2) := by decide +kernel
theorem dX8_version_27 : decode cX8_version 27 = .ok (.invokevirtual 51, 3) := by decide +kernel
theorem dX8_version_30 : decode cX8_version 30 = .ok (.ireturn, 1) := by decide +kernel
theorem dX8_version_31 : decode cX8_version 31 = .ok (.aload_n 0, 1) := by decide +kernel
theorem dX8_version_32 : decode cX8_version 32 = .ok (.invokevirtual 84, 3) := by decide +kernel
theorem dX8_version_35 : decode cX8_version 35 = .ok (.bipush 50, 2) := by decide +kernel
theorem dX8_version_37 : decode cX8_version 37 = .ok (.iload_n 1, 1) := by decide +kernel
theorem dX8_version_38 : decode cX8_version 38 = .ok (.imul, 1) := by decide +kernel
theorem dX8_version_39 : decode cX8_version 39 = .ok (.istore_n 3, 1) := by decide +kernel
theorem dX8_version_40 : decode cX8_version 40 = .ok (.iload_n 2, 1) := by decide +kernel
theorem dX8_version_41 : decode cX8_version 41 = .ok (.tableswitch 111 0 7 #[47, 54, 54, 67, 76, 82, 88, 97], 47) := by decide +kernel
theorem dX8_version_88 : decode cX8_version 88 = .ok (.aload_n 0, 1) := by decide +kernel
theorem dX8_version_89 : decode cX8_version 89 = .ok (.getfield 34, 3) := by decide +kernel
theorem dX8_version_92 : decode cX8_version 92 = .ok (.iload_n 1, 1) := by decide +kernel
theorem dX8_version_93 : decode cX8_version 93 = .ok (.iaload, 1) := by decide +kernel
theorem dX8_version_94 : decode cX8_version 94 = .ok (.ireturn, 1) := by decide +kernel
theorem dX8_version_95 : decode cX8_version 95 = .ok (.aload_n 0, 1) := by decide +kernel
theorem dX8_version_96 : decode cX8_version 96 = .ok (.getfield 9, 3) := by decide +kernel
theorem dX8_version_99 : decode cX8_version 99 = .ok (.iload_n 3, 1) := by decide +kernel
theorem dX8_version_100 : decode cX8_version 100 = .ok (.iconst 2, 1) := by decide +kernel
theorem dX8_version_101 : decode cX8_version 101 = .ok (.iadd, 1) := by decide +kernel
theorem dX8_version_102 : decode cX8_version 102 = .ok (.iload_n 2, 1) := by decide +kernel
theorem dX8_version_103 : decode cX8_version 103 = .ok (.iadd, 1) := by decide +kernel
theorem dX8_version_104 : decode cX8_version 104 = .ok (.iconst 1, 1) := by decide +kernel
theorem dX8_version_105 : decode cX8_version 105 = .ok (.isub, 1) := by decide +kernel
theorem dX8_version_106 : decode cX8_version 106 = .ok (.iaload, 1) := by decide +kernel
theorem dX8_version_107 : decode cX8_version 107 = .ok (.ireturn, 1) := by decide +kernel
theorem dX8_version_108 : decode cX8_version 108 = .ok (.aload_n 0, 1) := by decide +kernel
theorem dX8_version_109 : decode cX8_version 109 = .ok (.getfield 9, 3) := by decide +kernel
theorem dX8_version_112 : decode cX8_version 112 = .ok (.iload_n 3, 1) := by decide +kernel
theorem dX8_version_113 : decode cX8_version 113 = .ok (.iconst 4, 1) := by decide +kernel
theorem dX8_version_114 : decode cX8_version 114 = .ok (.iadd, 1) := by decide +kernel
theorem dX8_version_115 : decode cX8_version 115 = .ok (.iaload, 1) := by decide +kernel
theorem dX8_version_116 : decode cX8_version 116 = .ok (.ireturn, 1) := by decide +kernel
theorem dX8_version_117 : decode cX8_version 117 = .ok (.aload_n 0, 1) := by decide +kernel
theorem dX8_version_118 : decode cX8_version 118 = .ok (.iload_n 1, 1) := by decide +kernel
theorem dX8_version_119 : decode cX8_version 119 = .ok (.invokevirtual 89, 3) := by decide +kernel
theorem dX8_version_122 : decode cX8_version 122 = .ok (.ireturn, 1) := by decide +kernel
theorem dX8_version_123 : decode cX8_version 123 = .ok (.aload_n 0, 1) := by decide +kernel
theorem dX8_version_124 : decode cX8_version 124 = .ok (.iload_n 1, 1) := by decide +kernel
theorem dX8_version_125 : decode cX8_version 125 = .ok (.invokevirtual 86, 3) := by decide +kernel
theorem dX8_version_128 : decode cX8_version 128 = .ok (.ireturn, 1) := by decide +kernel
theorem dX8_version_129 : decode cX8_version 129 = .ok (.aload_n 0, 1) := by decide +kernel
theorem dX8_version_130 : decode cX8_version 130 = .ok (.getfield 9, 3) := by decide +kernel
theorem dX8_version_133 : decode cX8_version 133 = .ok (.iload_n 3, 1) := by decide +kernel
theorem dX8_version_134 : decode cX8_version 134 = .ok (.iconst 1, 1) := by decide +kernel
theorem dX8_version_135 : decode cX8_version 135 = .ok (.iadd, 1) := by decide +kernel
theorem dX8_version_136 : decode cX8_version 136 = .ok (.iaload, 1) := by decide +kernel
theorem dX8_version_137 : decode cX8_version 137 = .ok (.ireturn, 1) := by decide +kernel
theorem dX8_version_138 : decode cX8_version 138 = .ok (.aload_n 0, 1) := by decide +kernel
theorem dX8_version_139 : decode cX8_version 139 = .ok (.iload_n 1, 1) := by decide +kernel
theorem dX8_version_140 : decode cX8_version 140 = .ok (.invokevirtual 179, 3) := by decide +kernel
theorem dX8_version_143 : decode cX8_version 143 = .ok (.ifCond .eq 7, 3) := by decide +kernel
theorem dX8_version_146 : decode cX8_version 146 = .ok (.iconst 1, 1) := by decide +kernel
theorem dX8_version_147 : decode cX8_version 147 = .ok (.goto 4, 3) := by decide +kernel
theorem dX8_version_150 : decode cX8_version 150 = .ok (.iconst 0, 1) := by decide +kernel
theorem dX8_version_151 : decode cX8_version 151 = .ok (.ireturn, 1) := by decide +kernel
theorem dX8_version_152 : decode cX8_version 152 = .ok (.aload_n 0, 1) := by decide +kernel
theorem dX8_version_153 : decode cX8_version 153 = .ok (.getfield 9, 3) := by decide +kernel
theorem dX8_version_156 : decode cX8_version 156 = .ok (.iload_n 3, 1) := by decide +kernel
theorem dX8_version_157 : decode cX8_version 157 = .ok (.iconst 4, 1) := by decide +kernel
theorem dX8_version_158 : decode cX8_version 158 = .ok (.iadd, 1) := by decide +kernel
theorem dX8_version_159 : decode cX8_version 159 = .ok (.iaload, 1) := by decide +kernel
theorem dX8_version_160 : decode cX8_version 160 = .ok (.bipush (-9), 2) := by decide +kernel
theorem dX8_version_162 : decode cX8_version 162 = .ok (.if_icmp .ne 7, 3) := by decide +kernel
theorem dX8_version_165 : decode cX8_version 165 = .ok (.iconst 0, 1) := by decide +kernel
theorem dX8_version_166 : decode cX8_version 166 = .ok (.goto 12, 3) := by decide +kernel
theorem dX8_version_169 : decode cX8_version 169 = .ok (.aload_n 0, 1) := by decide +kernel
theorem dX8_version_170 : decode cX8_version 170 = .ok (.getfield 9, 3) := by decide +kernel
theorem dX8_version_173 : decode cX8_version 173 = .ok (.iload_n 3, 1) := by decide +kernel
theorem dX8_version_174 : decode cX8_version 174 = .ok (.bipush 18, 2) := by decide +kernel
theorem dX8_version_176 : decode cX8_version 176 = .ok (.iadd, 1) := by decide +kernel
theorem dX8_version_177 : decode cX8_version 177 = .ok (.iaload, 1) := by decide +kernel
theorem dX8_version_178 : decode cX8_version 178 = .ok (.ireturn, 1) := by decide +kernel
theorem dX8_spelt_0 : decode cX8_spelt 0 = .ok (.aload_n 0, 1) := by decide +kernel
theorem dX8_spelt_1 : decode cX8_spelt 1 = .ok (.iload_n 1, 1) := by decide +kernel
theorem dX8_spelt_2 : decode cX8_spelt 2 = .ok (.invokevirtual 59, 3) := by decide +kernel
theorem dX8_spelt_5 : decode cX8_spelt 5 = .ok (.ifCond .ne 9, 3) := by decide +kernel
theorem dX8_spelt_8 : decode cX8_spelt 8 = .ok (.aload_n 0, 1) := by decide +kernel
theorem dX8_spelt_9 : decode cX8_spelt 9 = .ok (.iconst (-1), 1) := by decide +kernel
theorem dX8_spelt_10 : decode cX8_spelt 10 = .ok (.invokevirtual 51, 3) := by decide +kernel
theorem dX8_spelt_13 : decode cX8_spelt 13 = .ok (.ireturn, 1) := by decide +kernel
theorem dX8_spelt_14 : decode cX8_spelt 14 = .ok (.aload_n 0, 1) := by decide +kernel
theorem dX8_spelt_15 : decode cX8_spelt 15 = .ok (.invokevirtual 84, 3) := by decide +kernel
theorem dX8_spelt_18 : decode cX8_spelt 18 = .ok (.iload_n 2, 1) := by decide +kernel
theorem dX8_spelt_19 : decode cX8_spelt 19 = .ok (.iconst 0, 1) := by decide +kernel
theorem dX8_spelt_20 : decode cX8_spelt 20 = .ok (.aload_n 0, 1) := by decide +kernel
theorem dX8_spelt_21 : decode cX8_spelt 21 = .ok (.getfield 34, 3) := by decide +kernel
theorem dX8_spelt_24 : decode cX8_spelt 24 = .ok (.iload_n 1, 1) := by decide +kernel
theorem dX8_spelt_25 : decode cX8_spelt 25 = .ok (.iaload, 1) := by decide +kernel
theorem dX8_spelt_26 : decode cX8_spelt 26 = .ok (.iconst 1, 1) := by decide +kernel
theorem dX8_spelt_27 : decode cX8_spelt 27 = .ok (.isub, 1) := by decide +kernel
theorem dX8_spelt_28 : decode cX8_spelt 28 = .ok (.invokestatic 55, 3) := by decide +kernel
theorem dX8_spelt_31 : decode cX8_spelt 31 = .ok (.ifCond .eq 17, 3) := by decide +kernel
theorem dX8_spelt_34 : decode cX8_spelt 34 = .ok (.aload_n 0, 1) := by decide +kernel
theorem dX8_spelt_35 : decode cX8_spelt 35 = .ok (.getfield 31, 3) := by decide +kernel
theorem dX8_spelt_38 : decode cX8_spelt 38 = .ok (.bipush 12, 2) := by decide +kernel
theorem dX8_spelt_40 : decode cX8_spelt 40 = .ok (.iload_n 1, 1) := by decide +kernel
theorem dX8_spelt_41 : decode cX8_spelt 41 = .ok (.imul, 1) := by decide +kernel
theorem dX8_spelt_42 : decode cX8_spelt 42 = .ok (.iload_n 2, 1) := by decide +kernel
theorem dX8_spelt_43 : decode cX8_spelt 43 = .ok (.iadd, 1) := by decide +kernel
theorem dX8_spelt_44 : decode cX8_spelt 44 = .ok (.iaload, 1) := by decide +kernel
theorem dX8_spelt_45 : decode cX8_spelt 45 = .ok (.goto 8, 3) := by decide +kernel
theorem dX8_spelt_48 : decode cX8_spelt 48 = .ok (.aload_n 0, 1) := by decide +kernel
theorem dX8_spelt_49 : decode cX8_spelt 49 = .ok (.iconst (-1), 1) := by decide +kernel
theorem dX8_spelt_50 : decode cX8_spelt 50 = .ok (.invokevirtual 51, 3) := by decide +kernel
theorem dX8_spelt_53 : decode cX8_spelt 53 = .ok (.ireturn, 1) := by decide +kernel
theorem dX8_step_0 : decode cX8_step 0 = .ok (.aload_n 0, 1) := by decide +kernel
theorem dX8_step_1 : decode cX8_step 1 = .ok (.iload_n 1, 1) := by decide +kernel
theorem dX8_step_2 : decode cX8_step 2 = .ok (.invokevirtual 59, 3) := by decide +kernel
theorem dX8_step_5 : decode cX8_step 5 = .ok (.ifCond .eq 41, 3) := by decide +kernel
theorem dX8_step_8 : decode cX8_step 8 = .ok (.aload_n 0, 1) := by decide +kernel
theorem dX8_step_9 : decode cX8_step 9 = .ok (.getfield 9, 3) := by decide +kernel
theorem dX8_step_12 : decode cX8_step 12 = .ok (.bipush 50, 2) := by decide +kernel
theorem dX8_step_14 : decode cX8_step 14 = .ok (.iload_n 1, 1) := by decide +kernel
theorem dX8_step_15 : decode cX8_step 15 = .ok (.imul, 1) := by decide +kernel
theorem dX8_step_16 : decode cX8_step 16 = .ok (.iconst 4, 1) := by decide +kernel
theorem dX8_step_17 : decode cX8_step 17 = .ok (.iadd, 1) := by decide +kernel
theorem dX8_step_18 : decode cX8_step 18 = .ok (.iaload, 1) := by decide +kernel
theorem dX8_step_19 : decode cX8_step 19 = .ok (.bipush (-9), 2) := by decide +kernel
theorem dX8_step_21 : decode cX8_step 21 = .ok (.if_icmp .eq 25, 3) := by decide +kernel
theorem dX8_step_24 : decode cX8_step 24 = .ok (.iload_n 2, 1) := by decide +kernel
theorem dX8_step_25 : decode cX8_step 25 = .ok (.iconst 0, 1) := by decide +kernel
theorem dX8_step_26 : decode cX8_step 26 = .ok (.aload_n 0, 1) := by decide +kernel
theorem dX8_step_27 : decode cX8_step 27 = .ok (.getfield 9, 3) := by decide +kernel
theorem dX8_step_30 : decode cX8_step 30 = .ok (.bipush 50, 2) := by decide +kernel
theorem dX8_step_32 : decode cX8_step 32 = .ok (.iload_n 1, 1) := by decide +kernel
theorem dX8_step_33 : decode cX8_step 33 = .ok (.imul, 1) := by decide +kernel
theorem dX8_step_34 : decode cX8_step 34 = .ok (.bipush 18, 2) := by decide +kernel
theorem dX8_step_36 : decode cX8_step 36 = .ok (.iadd, 1) := by decide +kernel
theorem dX8_step_37 : decode cX8_step 37 = .ok (.iaload, 1) := by decide +kernel
theorem dX8_step_38 : decode cX8_step 38 = .ok (.iconst 1, 1) := by decide +kernel
theorem dX8_step_39 : decode cX8_step 39 = .ok (.isub, 1) := by decide +kernel
theorem dX8_step_40 : decode cX8_step 40 = .ok (.invokestatic 55, 3) := by decide +kernel
theorem dX8_step_43 : decode cX8_step 43 = .ok (.ifCond .ne 9, 3) := by decide +kernel
theorem dX8_step_46 : decode cX8_step 46 = .ok (.aload_n 0, 1) := by decide +kernel
theorem dX8_step_47 : decode cX8_step 47 = .ok (.iconst (-1), 1) := by decide +kernel
theorem dX8_step_48 : decode cX8_step 48 = .ok (.invokevirtual 51, 3) := by decide +kernel
theorem dX8_step_51 : decode cX8_step 51 = .ok (.ireturn, 1) := by decide +kernel
theorem dX8_step_52 : decode cX8_step 52 = .ok (.iload_n 3, 1) := by decide +kernel
theorem dX8_step_53 : decode cX8_step 53 = .ok (.iconst 0, 1) := by decide +kernel
theorem dX8_step_54 : decode cX8_step 54 = .ok (.iconst 1, 1) := by decide +kernel
theorem dX8_step_55 : decode cX8_step 55 = .ok (.invokestatic 55, 3) := by decide +kernel
theorem dX8_step_58 : decode cX8_step 58 = .ok (.ifCond .eq 24, 3) := by decide +kernel
theorem dX8_step_61 : decode cX8_step 61 = .ok (.aload_n 0, 1) := by decide +kernel
theorem dX8_step_62 : decode cX8_step 62 = .ok (.getfield 9, 3) := by decide +kernel
theorem dX8_step_65 : decode cX8_step 65 = .ok (.bipush 50, 2) := by decide +kernel
theorem dX8_step_67 : decode cX8_step 67 = .ok (.iload_n 1, 1) := by decide +kernel
theorem dX8_step_68 : decode cX8_step 68 = .ok (.imul, 1) := by decide +kernel
theorem dX8_step_69 : decode cX8_step 69 = .ok (.bipush 20, 2) := by decide +kernel
theorem dX8_step_71 : decode cX8_step 71 = .ok (.iadd, 1) := by decide +kernel
theorem dX8_step_72 : decode cX8_step 72 = .ok (.iconst 2, 1) := by decide +kernel
theorem dX8_step_73 : decode cX8_step 73 = .ok (.iload_n 2, 1) := by decide +kernel
theorem dX8_step_74 : decode cX8_step 74 = .ok (.imul, 1) := by decide +kernel
theorem dX8_step_75 : decode cX8_step 75 = .ok (.iadd, 1) := by decide +kernel
theorem dX8_step_76 : decode cX8_step 76 = .ok (.iload_n 3, 1) := by decide +kernel
theorem dX8_step_77 : decode cX8_step 77 = .ok (.iadd, 1) := by decide +kernel
theorem dX8_step_78 : decode cX8_step 78 = .ok (.iaload, 1) := by decide +kernel
theorem dX8_step_79 : decode cX8_step 79 = .ok (.goto 9, 3) := by decide +kernel
theorem dX8_step_82 : decode cX8_step 82 = .ok (.aload_n 0, 1) := by decide +kernel
theorem dX8_step_83 : decode cX8_step 83 = .ok (.bipush (-2), 2) := by decide +kernel
theorem dX8_step_85 : decode cX8_step 85 = .ok (.invokevirtual 51, 3) := by decide +kernel
theorem dX8_step_88 : decode cX8_step 88 = .ok (.ireturn, 1) := by decide +kernel
theorem dX8_delta__0 : decode cX8_delta_ 0 = .ok (.aload_n 0, 1) := by decide +kernel
theorem dX8_delta__1 : decode cX8_delta_ 1 = .ok (.iload_n 1, 1) := by decide +kernel
theorem dX8_delta__2 : decode cX8_delta_ 2 = .ok (.invokevirtual 59, 3) := by decide +kernel
theorem dX8_delta__5 : decode cX8_delta_ 5 = .ok (.ifCond .eq 11, 3) := by decide +kernel
theorem dX8_delta__8 : decode cX8_delta_ 8 = .ok (.aload_n 0, 1) := by decide +kernel
theorem dX8_delta__9 : decode cX8_delta_ 9 = .ok (.iload_n 2, 1) := by decide +kernel
theorem dX8_delta__10 : decode cX8_delta_ 10 = .ok (.invokevirtual 59, 3) := by decide +kernel
theorem dX8_delta__13 : decode cX8_delta_ 13 = .ok (.ifCond .ne 9, 3) := by decide +kernel
theorem dX8_delta__16 : decode cX8_delta_ 16 = .ok (.aload_n 0, 1) := by decide +kernel
theorem dX8_delta__17 : decode cX8_delta_ 17 = .ok (.iconst (-1), 1) := by decide +kernel
theorem dX8_delta__18 : decode cX8_delta_ 18 = .ok (.invokevirtual 51, 3) := by decide +kernel
theorem dX8_delta__21 : decode cX8_delta_ 21 = .ok (.ireturn, 1) := by decide +kernel
theorem dX8_delta__22 : decode cX8_delta_ 22 = .ok (.iload_n 3, 1) := by decide +kernel
theorem dX8_delta__23 : decode cX8_delta_ 23 = .ok (.iconst 0, 1) := by decide +kernel
theorem dX8_delta__24 : decode cX8_delta_ 24 = .ok (.iconst 2, 1) := by decide +kernel
theorem dX8_delta__25 : decode cX8_delta_ 25 = .ok (.invokestatic 55, 3) := by decide +kernel
theorem dX8_delta__28 : decode cX8_delta_ 28 = .ok (.ifCond .ne 10, 3) := by decide +kernel
theorem dX8_delta__31 : decode cX8_delta_ 31 = .ok (.aload_n 0, 1) := by decide +kernel
theorem dX8_delta__32 : decode cX8_delta_ 32 = .ok (.bipush (-2), 2) := by decide +kernel
theorem dX8_delta__34 : decode cX8_delta_ 34 = .ok (.invokevirtual 51, 3) := by decide +kernel
theorem dX8_delta__37 : decode cX8_delta_ 37 = .ok (.ireturn, 1) := by decide +kernel
theorem dX8_delta__38 : decode cX8_delta_ 38 = .ok (.aload_n 0, 1) := by decide +kernel
theorem dX8_delta__39 : decode cX8_delta_ 39 = .ok (.invokevirtual 84, 3) := by decide +kernel
theorem dX8_delta__42 : decode cX8_delta_ 42 = .ok (.aload_n 0, 1) := by decide +kernel
theorem dX8_delta__43 : decode cX8_delta_ 43 = .ok (.iload_n 1, 1) := by decide +kernel
theorem dX8_delta__44 : decode cX8_delta_ 44 = .ok (.iload_n 2, 1) := by decide +kernel
theorem dX8_delta__45 : decode cX8_delta_ 45 = .ok (.invokevirtual 106, 3) := by decide +kernel
theorem dX8_delta__48 : decode cX8_delta_ 48 = .ok (.istore 4, 2) := by decide +kernel
theorem dX8_delta__50 : decode cX8_delta_ 50 = .ok (.iload_n 3, 1) := by decide +kernel
theorem dX8_delta__51 : decode cX8_delta_ 51 = .ok (.ifCond .ne 8, 3) := by decide +kernel
theorem dX8_delta__54 : decode cX8_delta_ 54 = .ok (.iload 4, 2) := by decide +kernel
theorem dX8_delta__56 : decode cX8_delta_ 56 = .ok (.goto 19, 3) := by decide +kernel
theorem dX8_delta__59 : decode cX8_delta_ 59 = .ok (.iload_n 3, 1) := by decide +kernel
theorem dX8_delta__60 : decode cX8_delta_ 60 = .ok (.iconst 1, 1) := by decide +kernel
theorem dX8_delta__61 : decode cX8_delta_ 61 = .ok (.if_icmp .ne 10, 3) := by decide +kernel
theorem dX8_delta__64 : decode cX8_delta_ 64 = .ok (.aload_n 0, 1) := by decide +kernel
theorem dX8_delta__65 : decode cX8_delta_ 65 = .ok (.getfield 73, 3) := by decide +kernel
theorem dX8_delta__68 : decode cX8_delta_ 68 = .ok (.goto 7, 3) := by decide +kernel
theorem dX8_delta__71 : decode cX8_delta_ 71 = .ok (.aload_n 0, 1) := by decide +kernel
theorem dX8_delta__72 : decode cX8_delta_ 72 = .ok (.getfield 77, 3) := by decide +kernel
theorem dX8_delta__75 : decode cX8_delta_ 75 = .ok (.ireturn, 1) := by decide +kernel
theorem dX8_deepest_0 : decode cX8_deepest 0 = .ok (.iconst 0, 1) := by decide +kernel
theorem dX8_deepest_1 : decode cX8_deepest 1 = .ok (.istore_n 1, 1) := by decide +kernel
theorem dX8_deepest_2 : decode cX8_deepest 2 = .ok (.iconst 0, 1) := by decide +kernel
theorem dX8_deepest_3 : decode cX8_deepest 3 = .ok (.istore_n 2, 1) := by decide +kernel
theorem dX8_deepest_4 : decode cX8_deepest 4 = .ok (.iload_n 2, 1) := by decide +kernel
theorem dX8_deepest_5 : decode cX8_deepest 5 = .ok (.bipush 10, 2) := by decide +kernel
theorem dX8_deepest_7 : decode cX8_deepest 7 = .ok (.if_icmp .ge 31, 3) := by decide +kernel
theorem dX8_deepest_10 : decode cX8_deepest 10 = .ok (.aload_n 0, 1) := by decide +kernel
theorem dX8_deepest_11 : decode cX8_deepest 11 = .ok (.iload_n 2, 1) := by decide +kernel
theorem dX8_deepest_12 : decode cX8_deepest 12 = .ok (.invokevirtual 59, 3) := by decide +kernel
theorem dX8_deepest_15 : decode cX8_deepest 15 = .ok (.ifCond .eq 15, 3) := by decide +kernel
theorem dX8_deepest_18 : decode cX8_deepest 18 = .ok (.iload_n 1, 1) := by decide +kernel
theorem dX8_deepest_19 : decode cX8_deepest 19 = .ok (.aload_n 0, 1) := by decide +kernel
theorem dX8_deepest_20 : decode cX8_deepest 20 = .ok (.iload_n 2, 1) := by decide +kernel
theorem dX8_deepest_21 : decode cX8_deepest 21 = .ok (.invokevirtual 89, 3) := by decide +kernel
theorem dX8_deepest_24 : decode cX8_deepest 24 = .ok (.invokestatic 67, 3) := by decide +kernel
theorem dX8_deepest_27 : decode cX8_deepest 27 = .ok (.goto 4, 3) := by decide +kernel
theorem dX8_deepest_30 : decode cX8_deepest 30 = .ok (.iload_n 1, 1) := by decide +kernel
theorem dX8_deepest_31 : decode cX8_deepest 31 = .ok (.istore_n 1, 1) := by decide +kernel
theorem dX8_deepest_32 : decode cX8_deepest 32 = .ok (.iinc 2 1, 3) := by decide +kernel
theorem dX8_deepest_35 : decode cX8_deepest 35 = .ok (.goto (-31), 3) := by decide +kernel
theorem dX8_deepest_38 : decode cX8_deepest 38 = .ok (.iload_n 1, 1) := by decide +kernel
theorem dX8_deepest_39 : decode cX8_deepest 39 = .ok (.ireturn, 1) := by decide +kernel
theorem dX8_wholes_0 : decode cX8_wholes 0 = .ok (.iconst 0, 1) := by decide +kernel
theorem dX8_wholes_1 : decode cX8_wholes 1 = .ok (.istore_n 1, 1) := by decide +kernel
theorem dX8_wholes_2 : decode cX8_wholes 2 = .ok (.iconst 0, 1) := by decide +kernel
theorem dX8_wholes_3 : decode cX8_wholes 3 = .ok (.istore_n 2, 1) := by decide +kernel
theorem dX8_wholes_4 : decode cX8_wholes 4 = .ok (.iload_n 2, 1) := by decide +kernel
theorem dX8_wholes_5 : decode cX8_wholes 5 = .ok (.bipush 10, 2) := by decide +kernel
theorem dX8_wholes_7 : decode cX8_wholes 7 = .ok (.if_icmp .ge 43, 3) := by decide +kernel
theorem dX8_wholes_10 : decode cX8_wholes 10 = .ok (.iload_n 1, 1) := by decide +kernel
theorem dX8_wholes_11 : decode cX8_wholes 11 = .ok (.aload_n 0, 1) := by decide +kernel
theorem dX8_wholes_12 : decode cX8_wholes 12 = .ok (.iload_n 2, 1) := by decide +kernel
theorem dX8_wholes_13 : decode cX8_wholes 13 = .ok (.invokevirtual 59, 3) := by decide +kernel
theorem dX8_wholes_16 : decode cX8_wholes 16 = .ok (.ifCond .eq 25, 3) := by decide +kernel
theorem dX8_wholes_19 : decode cX8_wholes 19 = .ok (.aload_n 0, 1) := by decide +kernel
theorem dX8_wholes_20 : decode cX8_wholes 20 = .ok (.getfield 9, 3) := by decide +kernel
theorem dX8_wholes_23 : decode cX8_wholes 23 = .ok (.bipush 50, 2) := by decide +kernel
theorem dX8_wholes_25 : decode cX8_wholes 25 = .ok (.iload_n 2, 1) := by decide +kernel
theorem dX8_wholes_26 : decode cX8_wholes 26 = .ok (.imul, 1) := by decide +kernel
theorem dX8_wholes_27 : decode cX8_wholes 27 = .ok (.iconst 4, 1) := by decide +kernel
theorem dX8_wholes_28 : decode cX8_wholes 28 = .ok (.iadd, 1) := by decide +kernel
theorem dX8_wholes_29 : decode cX8_wholes 29 = .ok (.iaload, 1) := by decide +kernel
theorem dX8_wholes_30 : decode cX8_wholes 30 = .ok (.bipush (-9), 2) := by decide +kernel
theorem dX8_wholes_32 : decode cX8_wholes 32 = .ok (.if_icmp .ne 9, 3) := by decide +kernel
theorem dX8_wholes_35 : decode cX8_wholes 35 = .ok (.iconst 1, 1) := by decide +kernel
theorem dX8_wholes_36 : decode cX8_wholes 36 = .ok (.iload_n 2, 1) := by decide +kernel
theorem dX8_wholes_37 : decode cX8_wholes 37 = .ok (.ishl, 1) := by decide +kernel
theorem dX8_wholes_38 : decode cX8_wholes 38 = .ok (.goto 4, 3) := by decide +kernel
theorem dX8_wholes_41 : decode cX8_wholes 41 = .ok (.iconst 0, 1) := by decide +kernel
theorem dX8_wholes_42 : decode cX8_wholes 42 = .ok (.ior, 1) := by decide +kernel
theorem dX8_wholes_43 : decode cX8_wholes 43 = .ok (.istore_n 1, 1) := by decide +kernel
theorem dX8_wholes_44 : decode cX8_wholes 44 = .ok (.iinc 2 1, 3) := by decide +kernel
theorem dX8_wholes_47 : decode cX8_wholes 47 = .ok (.goto (-43), 3) := by decide +kernel
theorem dX8_wholes_50 : decode cX8_wholes 50 = .ok (.iload_n 1, 1) := by decide +kernel
theorem dX8_wholes_51 : decode cX8_wholes 51 = .ok (.ireturn, 1) := by decide +kernel
theorem dX8_repacked_0 : decode cX8_repacked 0 = .ok (.iload_n 1, 1) := by decide +kernel
theorem dX8_repacked_1 : decode cX8_repacked 1 = .ok (.iconst 0, 1) := by decide +kernel
theorem dX8_repacked_2 : decode cX8_repacked 2 = .ok (.iconst 2, 1) := by decide +kernel
theorem dX8_repacked_3 : decode cX8_repacked 3 = .ok (.invokestatic 55, 3) := by decide +kernel
theorem dX8_repacked_6 : decode cX8_repacked 6 = .ok (.ifCond .ne 10, 3) := by decide +kernel
theorem dX8_repacked_9 : decode cX8_repacked 9 = .ok (.aload_n 0, 1) := by decide +kernel
theorem dX8_repacked_10 : decode cX8_repacked 10 = .ok (.bipush (-2), 2) := by decide +kernel
theorem dX8_repacked_12 : decode cX8_repacked 12 = .ok (.invokevirtual 51, 3) := by decide +kernel
theorem dX8_repacked_15 : decode cX8_repacked 15 = .ok (.ireturn, 1) := by decide +kernel
theorem dX8_repacked_16 : decode cX8_repacked 16 = .ok (.aload_n 0, 1) := by decide +kernel
theorem dX8_repacked_17 : decode cX8_repacked 17 = .ok (.getfield 9, 3) := by decide +kernel
theorem dX8_repacked_20 : decode cX8_repacked 20 = .ok (.aload_n 0, 1) := by decide +kernel
theorem dX8_repacked_21 : decode cX8_repacked 21 = .ok (.getfield 16, 3) := by decide +kernel
theorem dX8_repacked_24 : decode cX8_repacked 24 = .ok (.invokestatic 176, 3) := by decide +kernel
theorem dX8_repacked_27 : decode cX8_repacked 27 = .ok (.aload_n 0, 1) := by decide +kernel
theorem dX8_repacked_28 : decode cX8_repacked 28 = .ok (.invokevirtual 133, 3) := by decide +kernel
theorem dX8_repacked_31 : decode cX8_repacked 31 = .ok (.istore_n 2, 1) := by decide +kernel
theorem dX8_repacked_32 : decode cX8_repacked 32 = .ok (.iload_n 1, 1) := by decide +kernel
theorem dX8_repacked_33 : decode cX8_repacked 33 = .ok (.ifCond .ne 7, 3) := by decide +kernel
theorem dX8_repacked_36 : decode cX8_repacked 36 = .ok (.iload_n 2, 1) := by decide +kernel
theorem dX8_repacked_37 : decode cX8_repacked 37 = .ok (.goto 22, 3) := by decide +kernel
theorem dX8_repacked_40 : decode cX8_repacked 40 = .ok (.iload_n 1, 1) := by decide +kernel
theorem dX8_repacked_41 : decode cX8_repacked 41 = .ok (.iconst 1, 1) := by decide +kernel
theorem dX8_repacked_42 : decode cX8_repacked 42 = .ok (.if_icmp .ne 10, 3) := by decide +kernel
theorem dX8_repacked_45 : decode cX8_repacked 45 = .ok (.aload_n 0, 1) := by decide +kernel
theorem dX8_repacked_46 : decode cX8_repacked 46 = .ok (.invokevirtual 182, 3) := by decide +kernel
theorem dX8_repacked_49 : decode cX8_repacked 49 = .ok (.goto 10, 3) := by decide +kernel
theorem dX8_repacked_52 : decode cX8_repacked 52 = .ok (.aload_n 0, 1) := by decide +kernel
theorem dX8_repacked_53 : decode cX8_repacked 53 = .ok (.invokevirtual 185, 3) := by decide +kernel
theorem dX8_repacked_56 : decode cX8_repacked 56 = .ok (.invokestatic 148, 3) := by decide +kernel
theorem dX8_repacked_59 : decode cX8_repacked 59 = .ok (.istore_n 3, 1) := by decide +kernel
theorem dX8_repacked_60 : decode cX8_repacked 60 = .ok (.aload_n 0, 1) := by decide +kernel
theorem dX8_repacked_61 : decode cX8_repacked 61 = .ok (.getfield 16, 3) := by decide +kernel
theorem dX8_repacked_64 : decode cX8_repacked 64 = .ok (.aload_n 0, 1) := by decide +kernel
theorem dX8_repacked_65 : decode cX8_repacked 65 = .ok (.getfield 9, 3) := by decide +kernel
theorem dX8_repacked_68 : decode cX8_repacked 68 = .ok (.invokestatic 176, 3) := by decide +kernel
theorem dX8_repacked_71 : decode cX8_repacked 71 = .ok (.iload_n 3, 1) := by decide +kernel
theorem dX8_repacked_72 : decode cX8_repacked 72 = .ok (.ireturn, 1) := by decide +kernel
theorem dX8_best_0 : decode cX8_best 0 = .ok (.iload_n 1, 1) := by decide +kernel
theorem dX8_best_1 : decode cX8_best 1 = .ok (.iconst 0, 1) := by decide +kernel
theorem dX8_best_2 : decode cX8_best 2 = .ok (.iconst 1, 1) := by decide +kernel
theorem dX8_best_3 : decode cX8_best 3 = .ok (.invokestatic 55, 3) := by decide +kernel
theorem dX8_best_6 : decode cX8_best 6 = .ok (.ifCond .ne 10, 3) := by decide +kernel
theorem dX8_best_9 : decode cX8_best 9 = .ok (.aload_n 0, 1) := by decide +kernel
theorem dX8_best_10 : decode cX8_best 10 = .ok (.bipush (-2), 2) := by decide +kernel
theorem dX8_best_12 : decode cX8_best 12 = .ok (.invokevirtual 51, 3) := by decide +kernel
theorem dX8_best_15 : decode cX8_best 15 = .ok (.ireturn, 1) := by decide +kernel
theorem dX8_best_16 : decode cX8_best 16 = .ok (.aload_n 0, 1) := by decide +kernel
theorem dX8_best_17 : decode cX8_best 17 = .ok (.getfield 9, 3) := by decide +kernel
theorem dX8_best_20 : decode cX8_best 20 = .ok (.aload_n 0, 1) := by decide +kernel
theorem dX8_best_21 : decode cX8_best 21 = .ok (.getfield 16, 3) := by decide +kernel
theorem dX8_best_24 : decode cX8_best 24 = .ok (.invokestatic 176, 3) := by decide +kernel
theorem dX8_best_27 : decode cX8_best 27 = .ok (.iconst 0, 1) := by decide +kernel
theorem dX8_best_28 : decode cX8_best 28 = .ok (.istore_n 2, 1) := by decide +kernel
theorem dX8_best_29 : decode cX8_best 29 = .ok (.ldc 190, 2) := by decide +kernel
theorem dX8_best_31 : decode cX8_best 31 = .ok (.istore_n 3, 1) := by decide +kernel
theorem dX8_best_32 : decode cX8_best 32 = .ok (.iconst 0, 1) := by decide +kernel
theorem dX8_best_33 : decode cX8_best 33 = .ok (.istore 4, 2) := by decide +kernel
theorem dX8_best_35 : decode cX8_best 35 = .ok (.iload 4, 2) := by decide +kernel
theorem dX8_best_37 : decode cX8_best 37 = .ok (.iload_n 1, 1) := by decide +kernel
theorem dX8_best_38 : decode cX8_best 38 = .ok (.ifCond .ne 8, 3) := by decide +kernel
theorem dX8_best_41 : decode cX8_best 41 = .ok (.bipush 8, 2) := by decide +kernel
theorem dX8_best_43 : decode cX8_best 43 = .ok (.goto 4, 3) := by decide +kernel
theorem dX8_best_46 : decode cX8_best 46 = .ok (.iconst 5, 1) := by decide +kernel
theorem dX8_best_47 : decode cX8_best 47 = .ok (.if_icmp .gt 58, 3) := by decide +kernel
theorem dX8_best_50 : decode cX8_best 50 = .ok (.aload_n 0, 1) := by decide +kernel
theorem dX8_best_51 : decode cX8_best 51 = .ok (.getfield 9, 3) := by decide +kernel
theorem dX8_best_54 : decode cX8_best 54 = .ok (.iload_n 1, 1) := by decide +kernel
theorem dX8_best_55 : decode cX8_best 55 = .ok (.ifCond .ne 9, 3) := by decide +kernel
theorem dX8_best_58 : decode cX8_best 58 = .ok (.sipush 507, 3) := by decide +kernel
theorem dX8_best_61 : decode cX8_best 61 = .ok (.goto 6, 3) := by decide +kernel
theorem dX8_best_64 : decode cX8_best 64 = .ok (.sipush 505, 3) := by decide +kernel
theorem dX8_best_67 : decode cX8_best 67 = .ok (.iload 4, 2) := by decide +kernel
theorem dX8_best_69 : decode cX8_best 69 = .ok (.iastore, 1) := by decide +kernel
theorem dX8_best_70 : decode cX8_best 70 = .ok (.aload_n 0, 1) := by decide +kernel
theorem dX8_best_71 : decode cX8_best 71 = .ok (.invokevirtual 133, 3) := by decide +kernel
theorem dX8_best_74 : decode cX8_best 74 = .ok (.istore 5, 2) := by decide +kernel
theorem dX8_best_76 : decode cX8_best 76 = .ok (.aload_n 0, 1) := by decide +kernel
theorem dX8_best_77 : decode cX8_best 77 = .ok (.getfield 16, 3) := by decide +kernel
theorem dX8_best_80 : decode cX8_best 80 = .ok (.aload_n 0, 1) := by decide +kernel
theorem dX8_best_81 : decode cX8_best 81 = .ok (.getfield 9, 3) := by decide +kernel
theorem dX8_best_84 : decode cX8_best 84 = .ok (.invokestatic 176, 3) := by decide +kernel
theorem dX8_best_87 : decode cX8_best 87 = .ok (.iload 5, 2) := by decide +kernel
theorem dX8_best_89 : decode cX8_best 89 = .ok (.iload_n 3, 1) := by decide +kernel
theorem dX8_best_90 : decode cX8_best 90 = .ok (.if_icmp .ge 9, 3) := by decide +kernel
theorem dX8_best_93 : decode cX8_best 93 = .ok (.iload 5, 2) := by decide +kernel
theorem dX8_best_95 : decode cX8_best 95 = .ok (.istore_n 3, 1) := by decide +kernel
theorem dX8_best_96 : decode cX8_best 96 = .ok (.iload 4, 2) := by decide +kernel
theorem dX8_best_98 : decode cX8_best 98 = .ok (.istore_n 2, 1) := by decide +kernel
theorem dX8_best_99 : decode cX8_best 99 = .ok (.iinc 4 1, 3) := by decide +kernel
theorem dX8_best_102 : decode cX8_best 102 = .ok (.goto (-67), 3) := by decide +kernel
theorem dX8_best_105 : decode cX8_best 105 = .ok (.iload_n 2, 1) := by decide +kernel
theorem dX8_best_106 : decode cX8_best 106 = .ok (.ireturn, 1) := by decide +kernel
theorem dX8_bestBase_0 : decode cX8_bestBase 0 = .ok (.aload_n 0, 1) := by decide +kernel
theorem dX8_bestBase_1 : decode cX8_bestBase 1 = .ok (.iload_n 1, 1) := by decide +kernel
theorem dX8_bestBase_2 : decode cX8_bestBase 2 = .ok (.invokevirtual 59, 3) := by decide +kernel
theorem dX8_bestBase_5 : decode cX8_bestBase 5 = .ok (.ifCond .ne 9, 3) := by decide +kernel
theorem dX8_bestBase_8 : decode cX8_bestBase 8 = .ok (.aload_n 0, 1) := by decide +kernel
theorem dX8_bestBase_9 : decode cX8_bestBase 9 = .ok (.iconst (-1), 1) := by decide +kernel
theorem dX8_bestBase_10 : decode cX8_bestBase 10 = .ok (.invokevirtual 51, 3) := by decide +kernel
theorem dX8_bestBase_13 : decode cX8_bestBase 13 = .ok (.ireturn, 1) := by decide +kernel
theorem dX8_bestBase_14 : decode cX8_bestBase 14 = .ok (.iload_n 2, 1) := by decide +kernel
theorem dX8_bestBase_15 : decode cX8_bestBase 15 = .ok (.iconst 0, 1) := by decide +kernel
theorem dX8_bestBase_16 : decode cX8_bestBase 16 = .ok (.iconst 1, 1) := by decide +kernel
theorem dX8_bestBase_17 : decode cX8_bestBase 17 = .ok (.invokestatic 55, 3) := by decide +kernel
theorem dX8_bestBase_20 : decode cX8_bestBase 20 = .ok (.ifCond .ne 10, 3) := by decide +kernel
theorem dX8_bestBase_23 : decode cX8_bestBase 23 = .ok (.aload_n 0, 1) := by decide +kernel
theorem dX8_bestBase_24 : decode cX8_bestBase 24 = .ok (.bipush (-2), 2) := by decide +kernel
theorem dX8_bestBase_26 : decode cX8_bestBase 26 = .ok (.invokevirtual 51, 3) := by decide +kernel
theorem dX8_bestBase_29 : decode cX8_bestBase 29 = .ok (.ireturn, 1) := by decide +kernel
theorem dX8_bestBase_30 : decode cX8_bestBase 30 = .ok (.aload_n 0, 1) := by decide +kernel
theorem dX8_bestBase_31 : decode cX8_bestBase 31 = .ok (.invokevirtual 84, 3) := by decide +kernel
theorem dX8_bestBase_34 : decode cX8_bestBase 34 = .ok (.bipush (-9), 2) := by decide +kernel
theorem dX8_bestBase_36 : decode cX8_bestBase 36 = .ok (.istore_n 3, 1) := by decide +kernel
theorem dX8_bestBase_37 : decode cX8_bestBase 37 = .ok (.bipush (-9), 2) := by decide +kernel
theorem dX8_bestBase_39 : decode cX8_bestBase 39 = .ok (.istore 4, 2) := by decide +kernel
theorem dX8_bestBase_41 : decode cX8_bestBase 41 = .ok (.iconst 0, 1) := by decide +kernel
theorem dX8_bestBase_42 : decode cX8_bestBase 42 = .ok (.istore 5, 2) := by decide +kernel
theorem dX8_bestBase_44 : decode cX8_bestBase 44 = .ok (.iload 5, 2) := by decide +kernel
theorem dX8_bestBase_46 : decode cX8_bestBase 46 = .ok (.bipush 10, 2) := by decide +kernel
theorem dX8_bestBase_48 : decode cX8_bestBase 48 = .ok (.if_icmp .ge 59, 3) := by decide +kernel
theorem dX8_bestBase_51 : decode cX8_bestBase 51 = .ok (.iload 5, 2) := by decide +kernel
theorem dX8_bestBase_53 : decode cX8_bestBase 53 = .ok (.iload_n 1, 1) := by decide +kernel
theorem dX8_bestBase_54 : decode cX8_bestBase 54 = .ok (.if_icmp .eq 47, 3) := by decide +kernel
theorem dX8_bestBase_57 : decode cX8_bestBase 57 = .ok (.aload_n 0, 1) := by decide +kernel
theorem dX8_bestBase_58 : decode cX8_bestBase 58 = .ok (.iload 5, 2) := by decide +kernel
theorem dX8_bestBase_60 : decode cX8_bestBase 60 = .ok (.invokevirtual 59, 3) := by decide +kernel
theorem dX8_bestBase_63 : decode cX8_bestBase 63 = .ok (.ifCond .ne 6, 3) := by decide +kernel
theorem dX8_bestBase_66 : decode cX8_bestBase 66 = .ok (.goto 35, 3) := by decide +kernel
theorem dX8_bestBase_69 : decode cX8_bestBase 69 = .ok (.aload_n 0, 1) := by decide +kernel
theorem dX8_bestBase_70 : decode cX8_bestBase 70 = .ok (.iload 5, 2) := by decide +kernel
theorem dX8_bestBase_72 : decode cX8_bestBase 72 = .ok (.iload_n 1, 1) := by decide +kernel
theorem dX8_bestBase_73 : decode cX8_bestBase 73 = .ok (.invokevirtual 106, 3) := by decide +kernel
theorem dX8_bestBase_76 : decode cX8_bestBase 76 = .ok (.istore 6, 2) := by decide +kernel
theorem dX8_bestBase_78 : decode cX8_bestBase 78 = .ok (.iload_n 3, 1) := by decide +kernel
theorem dX8_bestBase_79 : decode cX8_bestBase 79 = .ok (.bipush (-9), 2) := by decide +kernel
theorem dX8_bestBase_81 : decode cX8_bestBase 81 = .ok (.if_icmp .eq 13, 3) := by decide +kernel
theorem dX8_bestBase_84 : decode cX8_bestBase 84 = .ok (.iload 6, 2) := by decide +kernel
theorem dX8_bestBase_86 : decode cX8_bestBase 86 = .ok (.iload 4, 2) := by decide +kernel
theorem dX8_bestBase_88 : decode cX8_bestBase 88 = .ok (.if_icmp .lt 6, 3) := by decide +kernel
theorem dX8_bestBase_91 : decode cX8_bestBase 91 = .ok (.goto 10, 3) := by decide +kernel
theorem dX8_bestBase_94 : decode cX8_bestBase 94 = .ok (.iload 5, 2) := by decide +kernel
theorem dX8_bestBase_96 : decode cX8_bestBase 96 = .ok (.istore_n 3, 1) := by decide +kernel
theorem dX8_bestBase_97 : decode cX8_bestBase 97 = .ok (.iload 6, 2) := by decide +kernel
theorem dX8_bestBase_99 : decode cX8_bestBase 99 = .ok (.istore 4, 2) := by decide +kernel
theorem dX8_bestBase_101 : decode cX8_bestBase 101 = .ok (.iinc 5 1, 3) := by decide +kernel
theorem dX8_bestBase_104 : decode cX8_bestBase 104 = .ok (.goto (-60), 3) := by decide +kernel
theorem dX8_bestBase_107 : decode cX8_bestBase 107 = .ok (.iload_n 2, 1) := by decide +kernel
theorem dX8_bestBase_108 : decode cX8_bestBase 108 = .ok (.ifCond .ne 7, 3) := by decide +kernel
theorem dX8_bestBase_111 : decode cX8_bestBase 111 = .ok (.iload_n 3, 1) := by decide +kernel
theorem dX8_bestBase_112 : decode cX8_bestBase 112 = .ok (.goto 5, 3) := by decide +kernel
theorem dX8_bestBase_115 : decode cX8_bestBase 115 = .ok (.iload 4, 2) := by decide +kernel
theorem dX8_bestBase_117 : decode cX8_bestBase 117 = .ok (.ireturn, 1) := by decide +kernel
theorem dX8_areTwins_0 : decode cX8_areTwins 0 = .ok (.aload_n 0, 1) := by decide +kernel
theorem dX8_areTwins_1 : decode cX8_areTwins 1 = .ok (.getfield 34, 3) := by decide +kernel
theorem dX8_areTwins_4 : decode cX8_areTwins 4 = .ok (.iload_n 1, 1) := by decide +kernel
theorem dX8_areTwins_5 : decode cX8_areTwins 5 = .ok (.iaload, 1) := by decide +kernel
theorem dX8_areTwins_6 : decode cX8_areTwins 6 = .ok (.aload_n 0, 1) := by decide +kernel
theorem dX8_areTwins_7 : decode cX8_areTwins 7 = .ok (.getfield 34, 3) := by decide +kernel
theorem dX8_areTwins_10 : decode cX8_areTwins 10 = .ok (.iload_n 2, 1) := by decide +kernel
theorem dX8_areTwins_11 : decode cX8_areTwins 11 = .ok (.iaload, 1) := by decide +kernel
theorem dX8_areTwins_12 : decode cX8_areTwins 12 = .ok (.if_icmp .ne 7, 3) := by decide +kernel
theorem dX8_areTwins_15 : decode cX8_areTwins 15 = .ok (.iconst 1, 1) := by decide +kernel
theorem dX8_areTwins_16 : decode cX8_areTwins 16 = .ok (.goto 4, 3) := by decide +kernel
theorem dX8_areTwins_19 : decode cX8_areTwins 19 = .ok (.iconst 0, 1) := by decide +kernel
theorem dX8_areTwins_20 : decode cX8_areTwins 20 = .ok (.istore_n 3, 1) := by decide +kernel
theorem dX8_areTwins_21 : decode cX8_areTwins 21 = .ok (.iconst 0, 1) := by decide +kernel
theorem dX8_areTwins_22 : decode cX8_areTwins 22 = .ok (.istore 4, 2) := by decide +kernel
theorem dX8_areTwins_24 : decode cX8_areTwins 24 = .ok (.iload 4, 2) := by decide +kernel
theorem dX8_areTwins_26 : decode cX8_areTwins 26 = .ok (.aload_n 0, 1) := by decide +kernel
theorem dX8_areTwins_27 : decode cX8_areTwins 27 = .ok (.getfield 34, 3) := by decide +kernel
theorem dX8_areTwins_30 : decode cX8_areTwins 30 = .ok (.iload_n 1, 1) := by decide +kernel
theorem dX8_areTwins_31 : decode cX8_areTwins 31 = .ok (.iaload, 1) := by decide +kernel
theorem dX8_areTwins_32 : decode cX8_areTwins 32 = .ok (.if_icmp .ge 46, 3) := by decide +kernel
theorem dX8_areTwins_35 : decode cX8_areTwins 35 = .ok (.iload_n 3, 1) := by decide +kernel
theorem dX8_areTwins_36 : decode cX8_areTwins 36 = .ok (.ifCond .eq 42, 3) := by decide +kernel
theorem dX8_areTwins_39 : decode cX8_areTwins 39 = .ok (.aload_n 0, 1) := by decide +kernel
theorem dX8_areTwins_40 : decode cX8_areTwins 40 = .ok (.getfield 31, 3) := by decide +kernel
theorem dX8_areTwins_43 : decode cX8_areTwins 43 = .ok (.bipush 12, 2) := by decide +kernel
theorem dX8_areTwins_45 : decode cX8_areTwins 45 = .ok (.iload_n 1, 1) := by decide +kernel
theorem dX8_areTwins_46 : decode cX8_areTwins 46 = .ok (.imul, 1) := by decide +kernel
theorem dX8_areTwins_47 : decode cX8_areTwins 47 = .ok (.iload 4, 2) := by decide +kernel
theorem dX8_areTwins_49 : decode cX8_areTwins 49 = .ok (.iadd, 1) := by decide +kernel
theorem dX8_areTwins_50 : decode cX8_areTwins 50 = .ok (.iaload, 1) := by decide +kernel
theorem dX8_areTwins_51 : decode cX8_areTwins 51 = .ok (.aload_n 0, 1) := by decide +kernel
theorem dX8_areTwins_52 : decode cX8_areTwins 52 = .ok (.getfield 31, 3) := by decide +kernel
theorem dX8_areTwins_55 : decode cX8_areTwins 55 = .ok (.bipush 12, 2) := by decide +kernel
theorem dX8_areTwins_57 : decode cX8_areTwins 57 = .ok (.iload_n 2, 1) := by decide +kernel
theorem dX8_areTwins_58 : decode cX8_areTwins 58 = .ok (.imul, 1) := by decide +kernel
theorem dX8_areTwins_59 : decode cX8_areTwins 59 = .ok (.iload 4, 2) := by decide +kernel
theorem dX8_areTwins_61 : decode cX8_areTwins 61 = .ok (.iadd, 1) := by decide +kernel
theorem dX8_areTwins_62 : decode cX8_areTwins 62 = .ok (.iaload, 1) := by decide +kernel
theorem dX8_areTwins_63 : decode cX8_areTwins 63 = .ok (.if_icmp .ne 7, 3) := by decide +kernel
theorem dX8_areTwins_66 : decode cX8_areTwins 66 = .ok (.iconst 1, 1) := by decide +kernel
theorem dX8_areTwins_67 : decode cX8_areTwins 67 = .ok (.goto 4, 3) := by decide +kernel
theorem dX8_areTwins_70 : decode cX8_areTwins 70 = .ok (.iconst 0, 1) := by decide +kernel
theorem dX8_areTwins_71 : decode cX8_areTwins 71 = .ok (.istore_n 3, 1) := by decide +kernel
theorem dX8_areTwins_72 : decode cX8_areTwins 72 = .ok (.iinc 4 1, 3) := by decide +kernel
theorem dX8_areTwins_75 : decode cX8_areTwins 75 = .ok (.goto (-51), 3) := by decide +kernel
theorem dX8_areTwins_78 : decode cX8_areTwins 78 = .ok (.iload_n 3, 1) := by decide +kernel
theorem dX8_areTwins_79 : decode cX8_areTwins 79 = .ok (.ireturn, 1) := by decide +kernel
theorem dX8_twinOf_0 : decode cX8_twinOf 0 = .ok (.iconst 0, 1) := by decide +kernel
theorem dX8_twinOf_1 : decode cX8_twinOf 1 = .ok (.istore_n 2, 1) := by decide +kernel
theorem dX8_twinOf_2 : decode cX8_twinOf 2 = .ok (.aload_n 0, 1) := by decide +kernel
theorem dX8_twinOf_3 : decode cX8_twinOf 3 = .ok (.iload_n 2, 1) := by decide +kernel
theorem dX8_twinOf_4 : decode cX8_twinOf 4 = .ok (.invokevirtual 59, 3) := by decide +kernel
theorem dX8_twinOf_7 : decode cX8_twinOf 7 = .ok (.ifCond .eq 12, 3) := by decide +kernel
theorem dX8_twinOf_10 : decode cX8_twinOf 10 = .ok (.aload_n 0, 1) := by decide +kernel
theorem dX8_twinOf_11 : decode cX8_twinOf 11 = .ok (.iload_n 2, 1) := by decide +kernel
theorem dX8_twinOf_12 : decode cX8_twinOf 12 = .ok (.iload_n 1, 1) := by decide +kernel
theorem dX8_twinOf_13 : decode cX8_twinOf 13 = .ok (.invokevirtual 191, 3) := by decide +kernel
theorem dX8_twinOf_16 : decode cX8_twinOf 16 = .ok (.ifCond .ne 9, 3) := by decide +kernel
theorem dX8_twinOf_19 : decode cX8_twinOf 19 = .ok (.iinc 2 1, 3) := by decide +kernel
theorem dX8_twinOf_22 : decode cX8_twinOf 22 = .ok (.goto (-20), 3) := by decide +kernel
theorem dX8_twinOf_25 : decode cX8_twinOf 25 = .ok (.iload_n 2, 1) := by decide +kernel
theorem dX8_twinOf_26 : decode cX8_twinOf 26 = .ok (.ireturn, 1) := by decide +kernel
theorem dX8_reached_0 : decode cX8_reached 0 = .ok (.iload_n 1, 1) := by decide +kernel
theorem dX8_reached_1 : decode cX8_reached 1 = .ok (.iconst 0, 1) := by decide +kernel
theorem dX8_reached_2 : decode cX8_reached 2 = .ok (.iconst 2, 1) := by decide +kernel
theorem dX8_reached_3 : decode cX8_reached 3 = .ok (.invokestatic 55, 3) := by decide +kernel
theorem dX8_reached_6 : decode cX8_reached 6 = .ok (.ifCond .ne 10, 3) := by decide +kernel
theorem dX8_reached_9 : decode cX8_reached 9 = .ok (.aload_n 0, 1) := by decide +kernel
theorem dX8_reached_10 : decode cX8_reached 10 = .ok (.bipush (-2), 2) := by decide +kernel
theorem dX8_reached_12 : decode cX8_reached 12 = .ok (.invokevirtual 51, 3) := by decide +kernel
theorem dX8_reached_15 : decode cX8_reached 15 = .ok (.ireturn, 1) := by decide +kernel
theorem dX8_reached_16 : decode cX8_reached 16 = .ok (.iload_n 1, 1) := by decide +kernel
theorem dX8_reached_17 : decode cX8_reached 17 = .ok (.ifCond .ne 8, 3) := by decide +kernel
theorem dX8_reached_20 : decode cX8_reached 20 = .ok (.aload_n 0, 1) := by decide +kernel
theorem dX8_reached_21 : decode cX8_reached 21 = .ok (.invokevirtual 145, 3) := by decide +kernel
theorem dX8_reached_24 : decode cX8_reached 24 = .ok (.ireturn, 1) := by decide +kernel
theorem dX8_reached_25 : decode cX8_reached 25 = .ok (.iload_n 1, 1) := by decide +kernel
theorem dX8_reached_26 : decode cX8_reached 26 = .ok (.iconst 1, 1) := by decide +kernel
theorem dX8_reached_27 : decode cX8_reached 27 = .ok (.if_icmp .ne 15, 3) := by decide +kernel
theorem dX8_reached_30 : decode cX8_reached 30 = .ok (.aload_n 0, 1) := by decide +kernel
theorem dX8_reached_31 : decode cX8_reached 31 = .ok (.invokevirtual 142, 3) := by decide +kernel
theorem dX8_reached_34 : decode cX8_reached 34 = .ok (.aload_n 0, 1) := by decide +kernel
theorem dX8_reached_35 : decode cX8_reached 35 = .ok (.invokevirtual 145, 3) := by decide +kernel
theorem dX8_reached_38 : decode cX8_reached 38 = .ok (.iconst (-1), 1) := by decide +kernel
theorem dX8_reached_39 : decode cX8_reached 39 = .ok (.ixor, 1) := by decide +kernel
theorem dX8_reached_40 : decode cX8_reached 40 = .ok (.iand, 1) := by decide +kernel
theorem dX8_reached_41 : decode cX8_reached 41 = .ok (.ireturn, 1) := by decide +kernel
theorem dX8_reached_42 : decode cX8_reached 42 = .ok (.aload_n 0, 1) := by decide +kernel
theorem dX8_reached_43 : decode cX8_reached 43 = .ok (.invokevirtual 84, 3) := by decide +kernel
theorem dX8_reached_46 : decode cX8_reached 46 = .ok (.iconst 0, 1) := by decide +kernel
theorem dX8_reached_47 : decode cX8_reached 47 = .ok (.istore_n 2, 1) := by decide +kernel
theorem dX8_reached_48 : decode cX8_reached 48 = .ok (.iconst 0, 1) := by decide +kernel
theorem dX8_reached_49 : decode cX8_reached 49 = .ok (.istore_n 3, 1) := by decide +kernel
theorem dX8_reached_50 : decode cX8_reached 50 = .ok (.iload_n 3, 1) := by decide +kernel
theorem dX8_reached_51 : decode cX8_reached 51 = .ok (.bipush 10, 2) := by decide +kernel
theorem dX8_reached_53 : decode cX8_reached 53 = .ok (.if_icmp .ge 34, 3) := by decide +kernel
theorem dX8_reached_56 : decode cX8_reached 56 = .ok (.iload_n 2, 1) := by decide +kernel
theorem dX8_reached_57 : decode cX8_reached 57 = .ok (.aload_n 0, 1) := by decide +kernel
theorem dX8_reached_58 : decode cX8_reached 58 = .ok (.iload_n 3, 1) := by decide +kernel
theorem dX8_reached_59 : decode cX8_reached 59 = .ok (.invokevirtual 59, 3) := by decide +kernel
theorem dX8_reached_62 : decode cX8_reached 62 = .ok (.ifCond .eq 16, 3) := by decide +kernel
theorem dX8_reached_65 : decode cX8_reached 65 = .ok (.aload_n 0, 1) := by decide +kernel
theorem dX8_reached_66 : decode cX8_reached 66 = .ok (.iload_n 3, 1) := by decide +kernel
theorem dX8_reached_67 : decode cX8_reached 67 = .ok (.invokevirtual 194, 3) := by decide +kernel
theorem dX8_reached_70 : decode cX8_reached 70 = .ok (.iload_n 3, 1) := by decide +kernel
theorem dX8_reached_71 : decode cX8_reached 71 = .ok (.if_icmp .ne 7, 3) := by decide +kernel
theorem dX8_reached_74 : decode cX8_reached 74 = .ok (.iconst 1, 1) := by decide +kernel
theorem dX8_reached_75 : decode cX8_reached 75 = .ok (.goto 4, 3) := by decide +kernel
theorem dX8_reached_78 : decode cX8_reached 78 = .ok (.iconst 0, 1) := by decide +kernel
theorem dX8_reached_79 : decode cX8_reached 79 = .ok (.iadd, 1) := by decide +kernel
theorem dX8_reached_80 : decode cX8_reached 80 = .ok (.istore_n 2, 1) := by decide +kernel
theorem dX8_reached_81 : decode cX8_reached 81 = .ok (.iinc 3 1, 3) := by decide +kernel
theorem dX8_reached_84 : decode cX8_reached 84 = .ok (.goto (-34), 3) := by decide +kernel
theorem dX8_reached_87 : decode cX8_reached 87 = .ok (.iload_n 2, 1) := by decide +kernel
theorem dX8_reached_88 : decode cX8_reached 88 = .ok (.ireturn, 1) := by decide +kernel
theorem dX8_ancestors_0 : decode cX8_ancestors 0 = .ok (.aload_n 0, 1) := by decide +kernel
theorem dX8_ancestors_1 : decode cX8_ancestors 1 = .ok (.iload_n 1, 1) := by decide +kernel
theorem dX8_ancestors_2 : decode cX8_ancestors 2 = .ok (.invokevirtual 59, 3) := by decide +kernel
theorem dX8_ancestors_5 : decode cX8_ancestors 5 = .ok (.ifCond .eq 17, 3) := by decide +kernel
theorem dX8_ancestors_8 : decode cX8_ancestors 8 = .ok (.aload_n 0, 1) := by decide +kernel
theorem dX8_ancestors_9 : decode cX8_ancestors 9 = .ok (.iload_n 1, 1) := by decide +kernel
theorem dX8_ancestors_10 : decode cX8_ancestors 10 = .ok (.invokevirtual 139, 3) := by decide +kernel
theorem dX8_ancestors_13 : decode cX8_ancestors 13 = .ok (.iconst 1, 1) := by decide +kernel
theorem dX8_ancestors_14 : decode cX8_ancestors 14 = .ok (.iload_n 1, 1) := by decide +kernel
theorem dX8_ancestors_15 : decode cX8_ancestors 15 = .ok (.ishl, 1) := by decide +kernel
theorem dX8_ancestors_16 : decode cX8_ancestors 16 = .ok (.iconst (-1), 1) := by decide +kernel
theorem dX8_ancestors_17 : decode cX8_ancestors 17 = .ok (.ixor, 1) := by decide +kernel
theorem dX8_ancestors_18 : decode cX8_ancestors 18 = .ok (.iand, 1) := by decide +kernel
theorem dX8_ancestors_19 : decode cX8_ancestors 19 = .ok (.goto 8, 3) := by decide +kernel
theorem dX8_ancestors_22 : decode cX8_ancestors 22 = .ok (.aload_n 0, 1) := by decide +kernel
theorem dX8_ancestors_23 : decode cX8_ancestors 23 = .ok (.iconst (-1), 1) := by decide +kernel
theorem dX8_ancestors_24 : decode cX8_ancestors 24 = .ok (.invokevirtual 51, 3) := by decide +kernel
theorem dX8_ancestors_27 : decode cX8_ancestors 27 = .ok (.ireturn, 1) := by decide +kernel
theorem dX8_common_0 : decode cX8_common 0 = .ok (.aload_n 0, 1) := by decide +kernel
theorem dX8_common_1 : decode cX8_common 1 = .ok (.iload_n 1, 1) := by decide +kernel
theorem dX8_common_2 : decode cX8_common 2 = .ok (.invokevirtual 59, 3) := by decide +kernel
theorem dX8_common_5 : decode cX8_common 5 = .ok (.ifCond .eq 11, 3) := by decide +kernel
theorem dX8_common_8 : decode cX8_common 8 = .ok (.aload_n 0, 1) := by decide +kernel
theorem dX8_common_9 : decode cX8_common 9 = .ok (.iload_n 2, 1) := by decide +kernel
theorem dX8_common_10 : decode cX8_common 10 = .ok (.invokevirtual 59, 3) := by decide +kernel
theorem dX8_common_13 : decode cX8_common 13 = .ok (.ifCond .ne 9, 3) := by decide +kernel
theorem dX8_common_16 : decode cX8_common 16 = .ok (.aload_n 0, 1) := by decide +kernel
theorem dX8_common_17 : decode cX8_common 17 = .ok (.iconst (-1), 1) := by decide +kernel
theorem dX8_common_18 : decode cX8_common 18 = .ok (.invokevirtual 51, 3) := by decide +kernel
theorem dX8_common_21 : decode cX8_common 21 = .ok (.ireturn, 1) := by decide +kernel
theorem dX8_common_22 : decode cX8_common 22 = .ok (.aload_n 0, 1) := by decide +kernel
theorem dX8_common_23 : decode cX8_common 23 = .ok (.iload_n 1, 1) := by decide +kernel
theorem dX8_common_24 : decode cX8_common 24 = .ok (.invokevirtual 139, 3) := by decide +kernel
theorem dX8_common_27 : decode cX8_common 27 = .ok (.aload_n 0, 1) := by decide +kernel
theorem dX8_common_28 : decode cX8_common 28 = .ok (.iload_n 2, 1) := by decide +kernel
theorem dX8_common_29 : decode cX8_common 29 = .ok (.invokevirtual 139, 3) := by decide +kernel
theorem dX8_common_32 : decode cX8_common 32 = .ok (.iand, 1) := by decide +kernel
theorem dX8_common_33 : decode cX8_common 33 = .ok (.istore_n 3, 1) := by decide +kernel
theorem dX8_common_34 : decode cX8_common 34 = .ok (.bipush (-9), 2) := by decide +kernel
theorem dX8_common_36 : decode cX8_common 36 = .ok (.istore 4, 2) := by decide +kernel
theorem dX8_common_38 : decode cX8_common 38 = .ok (.iconst 0, 1) := by decide +kernel
theorem dX8_common_39 : decode cX8_common 39 = .ok (.istore 5, 2) := by decide +kernel
theorem dX8_common_41 : decode cX8_common 41 = .ok (.iload 5, 2) := by decide +kernel
theorem dX8_common_43 : decode cX8_common 43 = .ok (.bipush 10, 2) := by decide +kernel
theorem dX8_common_45 : decode cX8_common 45 = .ok (.if_icmp .ge 28, 3) := by decide +kernel
theorem dX8_common_48 : decode cX8_common 48 = .ok (.iload_n 3, 1) := by decide +kernel
theorem dX8_common_49 : decode cX8_common 49 = .ok (.iload 5, 2) := by decide +kernel
theorem dX8_common_51 : decode cX8_common 51 = .ok (.ishr, 1) := by decide +kernel
theorem dX8_common_52 : decode cX8_common 52 = .ok (.iconst 1, 1) := by decide +kernel
theorem dX8_common_53 : decode cX8_common 53 = .ok (.iand, 1) := by decide +kernel
theorem dX8_common_54 : decode cX8_common 54 = .ok (.iconst 1, 1) := by decide +kernel
theorem dX8_common_55 : decode cX8_common 55 = .ok (.if_icmp .ne 8, 3) := by decide +kernel
theorem dX8_common_58 : decode cX8_common 58 = .ok (.iload 5, 2) := by decide +kernel
theorem dX8_common_60 : decode cX8_common 60 = .ok (.goto 5, 3) := by decide +kernel
theorem dX8_common_63 : decode cX8_common 63 = .ok (.iload 4, 2) := by decide +kernel
theorem dX8_common_65 : decode cX8_common 65 = .ok (.istore 4, 2) := by decide +kernel
theorem dX8_common_67 : decode cX8_common 67 = .ok (.iinc 5 1, 3) := by decide +kernel
theorem dX8_common_70 : decode cX8_common 70 = .ok (.goto (-29), 3) := by decide +kernel
theorem dX8_common_73 : decode cX8_common 73 = .ok (.iload 4, 2) := by decide +kernel
theorem dX8_common_75 : decode cX8_common 75 = .ok (.ireturn, 1) := by decide +kernel
theorem dX8_generations_0 : decode cX8_generations 0 = .ok (.iload_n 1, 1) := by decide +kernel
theorem dX8_generations_1 : decode cX8_generations 1 = .ok (.iconst 0, 1) := by decide +kernel
theorem dX8_generations_2 : decode cX8_generations 2 = .ok (.iconst 3, 1) := by decide +kernel
theorem dX8_generations_3 : decode cX8_generations 3 = .ok (.invokestatic 55, 3) := by decide +kernel
theorem dX8_generations_6 : decode cX8_generations 6 = .ok (.ifCond .ne 9, 3) := by decide +kernel
theorem dX8_generations_9 : decode cX8_generations 9 = .ok (.aload_n 0, 1) := by decide +kernel
theorem dX8_generations_10 : decode cX8_generations 10 = .ok (.iconst (-1), 1) := by decide +kernel
theorem dX8_generations_11 : decode cX8_generations 11 = .ok (.invokevirtual 51, 3) := by decide +kernel
theorem dX8_generations_14 : decode cX8_generations 14 = .ok (.ireturn, 1) := by decide +kernel
theorem dX8_generations_15 : decode cX8_generations 15 = .ok (.iload_n 2, 1) := by decide +kernel
theorem dX8_generations_16 : decode cX8_generations 16 = .ok (.ifCond .ge 10, 3) := by decide +kernel
theorem dX8_generations_19 : decode cX8_generations 19 = .ok (.aload_n 0, 1) := by decide +kernel
theorem dX8_generations_20 : decode cX8_generations 20 = .ok (.bipush (-4), 2) := by decide +kernel
theorem dX8_generations_22 : decode cX8_generations 22 = .ok (.invokevirtual 51, 3) := by decide +kernel
theorem dX8_generations_25 : decode cX8_generations 25 = .ok (.ireturn, 1) := by decide +kernel
theorem dX8_generations_26 : decode cX8_generations 26 = .ok (.iload_n 2, 1) := by decide +kernel
theorem dX8_generations_27 : decode cX8_generations 27 = .ok (.bipush 9, 2) := by decide +kernel
theorem dX8_generations_29 : decode cX8_generations 29 = .ok (.if_icmp .le 10, 3) := by decide +kernel
theorem dX8_generations_32 : decode cX8_generations 32 = .ok (.aload_n 0, 1) := by decide +kernel
theorem dX8_generations_33 : decode cX8_generations 33 = .ok (.bipush (-6), 2) := by decide +kernel
theorem dX8_generations_35 : decode cX8_generations 35 = .ok (.invokevirtual 51, 3) := by decide +kernel
theorem dX8_generations_38 : decode cX8_generations 38 = .ok (.ireturn, 1) := by decide +kernel
theorem dX8_generations_39 : decode cX8_generations 39 = .ok (.aload_n 0, 1) := by decide +kernel
theorem dX8_generations_40 : decode cX8_generations 40 = .ok (.getfield 9, 3) := by decide +kernel
theorem dX8_generations_43 : decode cX8_generations 43 = .ok (.sipush 501, 3) := by decide +kernel
theorem dX8_generations_46 : decode cX8_generations 46 = .ok (.iload_n 1, 1) := by decide +kernel
theorem dX8_generations_47 : decode cX8_generations 47 = .ok (.iadd, 1) := by decide +kernel
theorem dX8_generations_48 : decode cX8_generations 48 = .ok (.iaload, 1) := by decide +kernel
theorem dX8_generations_49 : decode cX8_generations 49 = .ok (.bipush (-9), 2) := by decide +kernel
theorem dX8_generations_51 : decode cX8_generations 51 = .ok (.if_icmp .ne 5, 3) := by decide +kernel
theorem dX8_generations_54 : decode cX8_generations 54 = .ok (.iconst 0, 1) := by decide +kernel
theorem dX8_generations_55 : decode cX8_generations 55 = .ok (.ireturn, 1) := by decide +kernel
theorem dX8_generations_56 : decode cX8_generations 56 = .ok (.iconst 1, 1) := by decide +kernel
theorem dX8_generations_57 : decode cX8_generations 57 = .ok (.aload_n 0, 1) := by decide +kernel
theorem dX8_generations_58 : decode cX8_generations 58 = .ok (.getfield 9, 3) := by decide +kernel
theorem dX8_generations_61 : decode cX8_generations 61 = .ok (.sipush 501, 3) := by decide +kernel
theorem dX8_generations_64 : decode cX8_generations 64 = .ok (.iload_n 1, 1) := by decide +kernel
theorem dX8_generations_65 : decode cX8_generations 65 = .ok (.iadd, 1) := by decide +kernel
theorem dX8_generations_66 : decode cX8_generations 66 = .ok (.iaload, 1) := by decide +kernel
theorem dX8_generations_67 : decode cX8_generations 67 = .ok (.ishl, 1) := by decide +kernel
theorem dX8_generations_68 : decode cX8_generations 68 = .ok (.istore_n 3, 1) := by decide +kernel
theorem dX8_generations_69 : decode cX8_generations 69 = .ok (.iconst 0, 1) := by decide +kernel
theorem dX8_generations_70 : decode cX8_generations 70 = .ok (.istore 4, 2) := by decide +kernel
theorem dX8_generations_72 : decode cX8_generations 72 = .ok (.iload 4, 2) := by decide +kernel
theorem dX8_generations_74 : decode cX8_generations 74 = .ok (.iload_n 2, 1) := by decide +kernel
theorem dX8_generations_75 : decode cX8_generations 75 = .ok (.if_icmp .ge 15, 3) := by decide +kernel
theorem dX8_generations_78 : decode cX8_generations 78 = .ok (.aload_n 0, 1) := by decide +kernel
theorem dX8_generations_79 : decode cX8_generations 79 = .ok (.iload_n 3, 1) := by decide +kernel
theorem dX8_generations_80 : decode cX8_generations 80 = .ok (.invokevirtual 136, 3) := by decide +kernel
theorem dX8_generations_83 : decode cX8_generations 83 = .ok (.istore_n 3, 1) := by decide +kernel
theorem dX8_generations_84 : decode cX8_generations 84 = .ok (.iinc 4 1, 3) := by decide +kernel
theorem dX8_generations_87 : decode cX8_generations 87 = .ok (.goto (-15), 3) := by decide +kernel
theorem dX8_generations_90 : decode cX8_generations 90 = .ok (.iload_n 3, 1) := by decide +kernel
theorem dX8_generations_91 : decode cX8_generations 91 = .ok (.ireturn, 1) := by decide +kernel
theorem dX8_twin_0 : decode cX8_twin 0 = .ok (.aload_n 0, 1) := by decide +kernel
theorem dX8_twin_1 : decode cX8_twin 1 = .ok (.iload_n 1, 1) := by decide +kernel
theorem dX8_twin_2 : decode cX8_twin 2 = .ok (.invokevirtual 59, 3) := by decide +kernel
theorem dX8_twin_5 : decode cX8_twin 5 = .ok (.ifCond .ne 9, 3) := by decide +kernel
theorem dX8_twin_8 : decode cX8_twin 8 = .ok (.aload_n 0, 1) := by decide +kernel
theorem dX8_twin_9 : decode cX8_twin 9 = .ok (.iconst (-1), 1) := by decide +kernel
theorem dX8_twin_10 : decode cX8_twin 10 = .ok (.invokevirtual 51, 3) := by decide +kernel
theorem dX8_twin_13 : decode cX8_twin 13 = .ok (.ireturn, 1) := by decide +kernel
theorem dX8_twin_14 : decode cX8_twin 14 = .ok (.aload_n 0, 1) := by decide +kernel
theorem dX8_twin_15 : decode cX8_twin 15 = .ok (.invokevirtual 84, 3) := by decide +kernel
theorem dX8_twin_18 : decode cX8_twin 18 = .ok (.aload_n 0, 1) := by decide +kernel
theorem dX8_twin_19 : decode cX8_twin 19 = .ok (.iload_n 1, 1) := by decide +kernel
theorem dX8_twin_20 : decode cX8_twin 20 = .ok (.invokevirtual 194, 3) := by decide +kernel
theorem dX8_twin_23 : decode cX8_twin 23 = .ok (.ireturn, 1) := by decide +kernel
theorem dX8_fetch_0 : decode cX8_fetch 0 = .ok (.iload_n 1, 1) := by decide +kernel
theorem dX8_fetch_1 : decode cX8_fetch 1 = .ok (.iconst 0, 1) := by decide +kernel
theorem dX8_fetch_2 : decode cX8_fetch 2 = .ok (.iconst 3, 1) := by decide +kernel
theorem dX8_fetch_3 : decode cX8_fetch 3 = .ok (.invokestatic 55, 3) := by decide +kernel
theorem dX8_fetch_6 : decode cX8_fetch 6 = .ok (.ifCond .ne 9, 3) := by decide +kernel
theorem dX8_fetch_9 : decode cX8_fetch 9 = .ok (.aload_n 0, 1) := by decide +kernel
theorem dX8_fetch_10 : decode cX8_fetch 10 = .ok (.iconst (-1), 1) := by decide +kernel
theorem dX8_fetch_11 : decode cX8_fetch 11 = .ok (.invokevirtual 51, 3) := by decide +kernel
theorem dX8_fetch_14 : decode cX8_fetch 14 = .ok (.ireturn, 1) := by decide +kernel
theorem dX8_fetch_15 : decode cX8_fetch 15 = .ok (.iload_n 2, 1) := by decide +kernel
theorem dX8_fetch_16 : decode cX8_fetch 16 = .ok (.ifCond .ge 10, 3) := by decide +kernel
theorem dX8_fetch_19 : decode cX8_fetch 19 = .ok (.aload_n 0, 1) := by decide +kernel
theorem dX8_fetch_20 : decode cX8_fetch 20 = .ok (.bipush (-4), 2) := by decide +kernel
theorem dX8_fetch_22 : decode cX8_fetch 22 = .ok (.invokevirtual 51, 3) := by decide +kernel
theorem dX8_fetch_25 : decode cX8_fetch 25 = .ok (.ireturn, 1) := by decide +kernel
theorem dX8_fetch_26 : decode cX8_fetch 26 = .ok (.iload_n 2, 1) := by decide +kernel
theorem dX8_fetch_27 : decode cX8_fetch 27 = .ok (.sipush 1023, 3) := by decide +kernel
theorem dX8_fetch_30 : decode cX8_fetch 30 = .ok (.if_icmp .le 10, 3) := by decide +kernel
theorem dX8_fetch_33 : decode cX8_fetch 33 = .ok (.aload_n 0, 1) := by decide +kernel
theorem dX8_fetch_34 : decode cX8_fetch 34 = .ok (.bipush (-6), 2) := by decide +kernel
theorem dX8_fetch_36 : decode cX8_fetch 36 = .ok (.invokevirtual 51, 3) := by decide +kernel
theorem dX8_fetch_39 : decode cX8_fetch 39 = .ok (.ireturn, 1) := by decide +kernel
theorem dX8_fetch_40 : decode cX8_fetch 40 = .ok (.iload_n 3, 1) := by decide +kernel
theorem dX8_fetch_41 : decode cX8_fetch 41 = .ok (.iconst 0, 1) := by decide +kernel
theorem dX8_fetch_42 : decode cX8_fetch 42 = .ok (.iconst 2, 1) := by decide +kernel
theorem dX8_fetch_43 : decode cX8_fetch 43 = .ok (.invokestatic 55, 3) := by decide +kernel
theorem dX8_fetch_46 : decode cX8_fetch 46 = .ok (.ifCond .ne 10, 3) := by decide +kernel
theorem dX8_fetch_49 : decode cX8_fetch 49 = .ok (.aload_n 0, 1) := by decide +kernel
theorem dX8_fetch_50 : decode cX8_fetch 50 = .ok (.bipush (-2), 2) := by decide +kernel
theorem dX8_fetch_52 : decode cX8_fetch 52 = .ok (.invokevirtual 51, 3) := by decide +kernel
theorem dX8_fetch_55 : decode cX8_fetch 55 = .ok (.ireturn, 1) := by decide +kernel
theorem dX8_fetch_56 : decode cX8_fetch 56 = .ok (.aload_n 0, 1) := by decide +kernel
theorem dX8_fetch_57 : decode cX8_fetch 57 = .ok (.invokevirtual 84, 3) := by decide +kernel
theorem dX8_fetch_60 : decode cX8_fetch 60 = .ok (.iload_n 2, 1) := by decide +kernel
theorem dX8_fetch_61 : decode cX8_fetch 61 = .ok (.istore 4, 2) := by decide +kernel
theorem dX8_fetch_63 : decode cX8_fetch 63 = .ok (.iconst 0, 1) := by decide +kernel
theorem dX8_fetch_64 : decode cX8_fetch 64 = .ok (.istore 5, 2) := by decide +kernel
theorem dX8_fetch_66 : decode cX8_fetch 66 = .ok (.iload 5, 2) := by decide +kernel
theorem dX8_fetch_68 : decode cX8_fetch 68 = .ok (.bipush 10, 2) := by decide +kernel
theorem dX8_fetch_70 : decode cX8_fetch 70 = .ok (.if_icmp .ge 17, 3) := by decide +kernel
theorem dX8_fetch_73 : decode cX8_fetch 73 = .ok (.aload_n 0, 1) := by decide +kernel
theorem dX8_fetch_74 : decode cX8_fetch 74 = .ok (.iload 4, 2) := by decide +kernel
theorem dX8_fetch_76 : decode cX8_fetch 76 = .ok (.invokevirtual 136, 3) := by decide +kernel
theorem dX8_fetch_79 : decode cX8_fetch 79 = .ok (.istore 4, 2) := by decide +kernel
theorem dX8_fetch_81 : decode cX8_fetch 81 = .ok (.iinc 5 1, 3) := by decide +kernel
theorem dX8_fetch_84 : decode cX8_fetch 84 = .ok (.goto (-18), 3) := by decide +kernel
theorem dX8_fetch_87 : decode cX8_fetch 87 = .ok (.aload_n 0, 1) := by decide +kernel
theorem dX8_fetch_88 : decode cX8_fetch 88 = .ok (.getfield 9, 3) := by decide +kernel
theorem dX8_fetch_91 : decode cX8_fetch 91 = .ok (.sipush 501, 3) := by decide +kernel
theorem dX8_fetch_94 : decode cX8_fetch 94 = .ok (.iload_n 1, 1) := by decide +kernel
theorem dX8_fetch_95 : decode cX8_fetch 95 = .ok (.iadd, 1) := by decide +kernel
theorem dX8_fetch_96 : decode cX8_fetch 96 = .ok (.iaload, 1) := by decide +kernel
theorem dX8_fetch_97 : decode cX8_fetch 97 = .ok (.bipush (-9), 2) := by decide +kernel
theorem dX8_fetch_99 : decode cX8_fetch 99 = .ok (.if_icmp .ne 7, 3) := by decide +kernel
theorem dX8_fetch_102 : decode cX8_fetch 102 = .ok (.iconst 0, 1) := by decide +kernel
theorem dX8_fetch_103 : decode cX8_fetch 103 = .ok (.goto 27, 3) := by decide +kernel
theorem dX8_fetch_106 : decode cX8_fetch 106 = .ok (.aload_n 0, 1) := by decide +kernel
theorem dX8_fetch_107 : decode cX8_fetch 107 = .ok (.aload_n 0, 1) := by decide +kernel
theorem dX8_fetch_108 : decode cX8_fetch 108 = .ok (.getfield 9, 3) := by decide +kernel
theorem dX8_fetch_111 : decode cX8_fetch 111 = .ok (.sipush 501, 3) := by decide +kernel
theorem dX8_fetch_114 : decode cX8_fetch 114 = .ok (.iload_n 1, 1) := by decide +kernel
theorem dX8_fetch_115 : decode cX8_fetch 115 = .ok (.iadd, 1) := by decide +kernel
theorem dX8_fetch_116 : decode cX8_fetch 116 = .ok (.iaload, 1) := by decide +kernel
theorem dX8_fetch_117 : decode cX8_fetch 117 = .ok (.invokevirtual 139, 3) := by decide +kernel
theorem dX8_fetch_120 : decode cX8_fetch 120 = .ok (.aload_n 0, 1) := by decide +kernel
theorem dX8_fetch_121 : decode cX8_fetch 121 = .ok (.invokevirtual 142, 3) := by decide +kernel
theorem dX8_fetch_124 : decode cX8_fetch 124 = .ok (.iand, 1) := by decide +kernel
theorem dX8_fetch_125 : decode cX8_fetch 125 = .ok (.iload 4, 2) := by decide +kernel
theorem dX8_fetch_127 : decode cX8_fetch 127 = .ok (.iconst (-1), 1) := by decide +kernel
theorem dX8_fetch_128 : decode cX8_fetch 128 = .ok (.ixor, 1) := by decide +kernel
theorem dX8_fetch_129 : decode cX8_fetch 129 = .ok (.iand, 1) := by decide +kernel
theorem dX8_fetch_130 : decode cX8_fetch 130 = .ok (.istore 5, 2) := by decide +kernel
theorem dX8_fetch_132 : decode cX8_fetch 132 = .ok (.iload 5, 2) := by decide +kernel
theorem dX8_fetch_134 : decode cX8_fetch 134 = .ok (.iload 4, 2) := by decide +kernel
theorem dX8_fetch_136 : decode cX8_fetch 136 = .ok (.aload_n 0, 1) := by decide +kernel
theorem dX8_fetch_137 : decode cX8_fetch 137 = .ok (.invokevirtual 142, 3) := by decide +kernel
theorem dX8_fetch_140 : decode cX8_fetch 140 = .ok (.iand, 1) := by decide +kernel
theorem dX8_fetch_141 : decode cX8_fetch 141 = .ok (.ior, 1) := by decide +kernel
theorem dX8_fetch_142 : decode cX8_fetch 142 = .ok (.istore 6, 2) := by decide +kernel
theorem dX8_fetch_144 : decode cX8_fetch 144 = .ok (.iconst 0, 1) := by decide +kernel
theorem dX8_fetch_145 : decode cX8_fetch 145 = .ok (.istore 7, 2) := by decide +kernel
theorem dX8_fetch_147 : decode cX8_fetch 147 = .ok (.iconst 0, 1) := by decide +kernel
theorem dX8_fetch_148 : decode cX8_fetch 148 = .ok (.istore 8, 2) := by decide +kernel
theorem dX8_fetch_150 : decode cX8_fetch 150 = .ok (.iconst 0, 1) := by decide +kernel
theorem dX8_fetch_151 : decode cX8_fetch 151 = .ok (.istore 9, 2) := by decide +kernel
theorem dX8_fetch_153 : decode cX8_fetch 153 = .ok (.iload 9, 2) := by decide +kernel
theorem dX8_fetch_155 : decode cX8_fetch 155 = .ok (.bipush 10, 2) := by decide +kernel
theorem dX8_fetch_157 : decode cX8_fetch 157 = .ok (.if_icmp .ge 104, 3) := by decide +kernel
theorem dX8_fetch_160 : decode cX8_fetch 160 = .ok (.iload 5, 2) := by decide +kernel
theorem dX8_fetch_162 : decode cX8_fetch 162 = .ok (.iload 9, 2) := by decide +kernel
theorem dX8_fetch_164 : decode cX8_fetch 164 = .ok (.ishr, 1) := by decide +kernel
theorem dX8_fetch_165 : decode cX8_fetch 165 = .ok (.iconst 1, 1) := by decide +kernel
theorem dX8_fetch_166 : decode cX8_fetch 166 = .ok (.iand, 1) := by decide +kernel
theorem dX8_fetch_167 : decode cX8_fetch 167 = .ok (.ifCond .ne 6, 3) := by decide +kernel
theorem dX8_fetch_170 : decode cX8_fetch 170 = .ok (.goto 85, 3) := by decide +kernel
theorem dX8_fetch_173 : decode cX8_fetch 173 = .ok (.aload_n 0, 1) := by decide +kernel
theorem dX8_fetch_174 : decode cX8_fetch 174 = .ok (.getfield 9, 3) := by decide +kernel
theorem dX8_fetch_177 : decode cX8_fetch 177 = .ok (.bipush 50, 2) := by decide +kernel
theorem dX8_fetch_179 : decode cX8_fetch 179 = .ok (.iload 9, 2) := by decide +kernel
theorem dX8_fetch_181 : decode cX8_fetch 181 = .ok (.imul, 1) := by decide +kernel
theorem dX8_fetch_182 : decode cX8_fetch 182 = .ok (.iconst 4, 1) := by decide +kernel
theorem dX8_fetch_183 : decode cX8_fetch 183 = .ok (.iadd, 1) := by decide +kernel
theorem dX8_fetch_184 : decode cX8_fetch 184 = .ok (.iaload, 1) := by decide +kernel
theorem dX8_fetch_185 : decode cX8_fetch 185 = .ok (.istore 10, 2) := by decide +kernel
theorem dX8_fetch_187 : decode cX8_fetch 187 = .ok (.iload 10, 2) := by decide +kernel
theorem dX8_fetch_189 : decode cX8_fetch 189 = .ok (.bipush (-9), 2) := by decide +kernel
theorem dX8_fetch_191 : decode cX8_fetch 191 = .ok (.if_icmp .eq 14, 3) := by decide +kernel
theorem dX8_fetch_194 : decode cX8_fetch 194 = .ok (.iload 6, 2) := by decide +kernel
theorem dX8_fetch_196 : decode cX8_fetch 196 = .ok (.iload 10, 2) := by decide +kernel
theorem dX8_fetch_198 : decode cX8_fetch 198 = .ok (.ishr, 1) := by decide +kernel
theorem dX8_fetch_199 : decode cX8_fetch 199 = .ok (.iconst 1, 1) := by decide +kernel
theorem dX8_fetch_200 : decode cX8_fetch 200 = .ok (.iand, 1) := by decide +kernel
theorem dX8_fetch_201 : decode cX8_fetch 201 = .ok (.iconst 1, 1) := by decide +kernel
theorem dX8_fetch_202 : decode cX8_fetch 202 = .ok (.if_icmp .ne 7, 3) := by decide +kernel
theorem dX8_fetch_205 : decode cX8_fetch 205 = .ok (.iconst 1, 1) := by decide +kernel
theorem dX8_fetch_206 : decode cX8_fetch 206 = .ok (.goto 4, 3) := by decide +kernel
theorem dX8_fetch_209 : decode cX8_fetch 209 = .ok (.iconst 0, 1) := by decide +kernel
theorem dX8_fetch_210 : decode cX8_fetch 210 = .ok (.istore 11, 2) := by decide +kernel
theorem dX8_fetch_212 : decode cX8_fetch 212 = .ok (.iload 7, 2) := by decide +kernel
theorem dX8_fetch_214 : decode cX8_fetch 214 = .ok (.iload 11, 2) := by decide +kernel
theorem dX8_fetch_216 : decode cX8_fetch 216 = .ok (.ifCond .eq 12, 3) := by decide +kernel
theorem dX8_fetch_219 : decode cX8_fetch 219 = .ok (.aload_n 0, 1) := by decide +kernel
theorem dX8_fetch_220 : decode cX8_fetch 220 = .ok (.iload 9, 2) := by decide +kernel
theorem dX8_fetch_222 : decode cX8_fetch 222 = .ok (.invokevirtual 86, 3) := by decide +kernel
theorem dX8_fetch_225 : decode cX8_fetch 225 = .ok (.goto 12, 3) := by decide +kernel
theorem dX8_fetch_228 : decode cX8_fetch 228 = .ok (.iconst 1, 1) := by decide +kernel
theorem dX8_fetch_229 : decode cX8_fetch 229 = .ok (.aload_n 0, 1) := by decide +kernel
theorem dX8_fetch_230 : decode cX8_fetch 230 = .ok (.getfield 34, 3) := by decide +kernel
theorem dX8_fetch_233 : decode cX8_fetch 233 = .ok (.iload 9, 2) := by decide +kernel
theorem dX8_fetch_235 : decode cX8_fetch 235 = .ok (.iaload, 1) := by decide +kernel
theorem dX8_fetch_236 : decode cX8_fetch 236 = .ok (.iadd, 1) := by decide +kernel
theorem dX8_fetch_237 : decode cX8_fetch 237 = .ok (.iadd, 1) := by decide +kernel
theorem dX8_fetch_238 : decode cX8_fetch 238 = .ok (.istore 7, 2) := by decide +kernel
theorem dX8_fetch_240 : decode cX8_fetch 240 = .ok (.iload 8, 2) := by decide +kernel
theorem dX8_fetch_242 : decode cX8_fetch 242 = .ok (.iload 11, 2) := by decide +kernel
theorem dX8_fetch_244 : decode cX8_fetch 244 = .ok (.ifCond .eq 7, 3) := by decide +kernel
theorem dX8_fetch_247 : decode cX8_fetch 247 = .ok (.iconst 0, 1) := by decide +kernel
theorem dX8_fetch_248 : decode cX8_fetch 248 = .ok (.goto 4, 3) := by decide +kernel
theorem dX8_fetch_251 : decode cX8_fetch 251 = .ok (.iconst 1, 1) := by decide +kernel
theorem dX8_fetch_252 : decode cX8_fetch 252 = .ok (.iadd, 1) := by decide +kernel
theorem dX8_fetch_253 : decode cX8_fetch 253 = .ok (.istore 8, 2) := by decide +kernel
theorem dX8_fetch_255 : decode cX8_fetch 255 = .ok (.iinc 9 1, 3) := by decide +kernel
theorem dX8_fetch_258 : decode cX8_fetch 258 = .ok (.goto (-105), 3) := by decide +kernel
theorem dX8_fetch_261 : decode cX8_fetch 261 = .ok (.iload_n 3, 1) := by decide +kernel
theorem dX8_fetch_262 : decode cX8_fetch 262 = .ok (.ifCond .ne 8, 3) := by decide +kernel
theorem dX8_fetch_265 : decode cX8_fetch 265 = .ok (.iload 5, 2) := by decide +kernel
theorem dX8_fetch_267 : decode cX8_fetch 267 = .ok (.goto 15, 3) := by decide +kernel
theorem dX8_fetch_270 : decode cX8_fetch 270 = .ok (.iload_n 3, 1) := by decide +kernel
theorem dX8_fetch_271 : decode cX8_fetch 271 = .ok (.iconst 1, 1) := by decide +kernel
theorem dX8_fetch_272 : decode cX8_fetch 272 = .ok (.if_icmp .ne 8, 3) := by decide +kernel
theorem dX8_fetch_275 : decode cX8_fetch 275 = .ok (.iload 7, 2) := by decide +kernel
theorem dX8_fetch_277 : decode cX8_fetch 277 = .ok (.goto 5, 3) := by decide +kernel
theorem dX8_fetch_280 : decode cX8_fetch 280 = .ok (.iload 8, 2) := by decide +kernel
theorem dX8_fetch_282 : decode cX8_fetch 282 = .ok (.ireturn, 1) := by decide +kernel
theorem dX8_wrong_0 : decode cX8_wrong 0 = .ok (.aload_n 0, 1) := by decide +kernel
theorem dX8_wrong_1 : decode cX8_wrong 1 = .ok (.invokevirtual 84, 3) := by decide +kernel
theorem dX8_wrong_4 : decode cX8_wrong 4 = .ok (.iconst 0, 1) := by decide +kernel
theorem dX8_wrong_5 : decode cX8_wrong 5 = .ok (.istore_n 1, 1) := by decide +kernel
theorem dX8_wrong_6 : decode cX8_wrong 6 = .ok (.iconst 0, 1) := by decide +kernel
theorem dX8_wrong_7 : decode cX8_wrong 7 = .ok (.istore_n 2, 1) := by decide +kernel
theorem dX8_wrong_8 : decode cX8_wrong 8 = .ok (.iload_n 2, 1) := by decide +kernel
theorem dX8_wrong_9 : decode cX8_wrong 9 = .ok (.bipush 10, 2) := by decide +kernel
theorem dX8_wrong_11 : decode cX8_wrong 11 = .ok (.if_icmp .ge 35, 3) := by decide +kernel
theorem dX8_wrong_14 : decode cX8_wrong 14 = .ok (.iload_n 1, 1) := by decide +kernel
theorem dX8_wrong_15 : decode cX8_wrong 15 = .ok (.aload_n 0, 1) := by decide +kernel
theorem dX8_wrong_16 : decode cX8_wrong 16 = .ok (.iload_n 2, 1) := by decide +kernel
theorem dX8_wrong_17 : decode cX8_wrong 17 = .ok (.invokevirtual 59, 3) := by decide +kernel
theorem dX8_wrong_20 : decode cX8_wrong 20 = .ok (.ifCond .eq 17, 3) := by decide +kernel
theorem dX8_wrong_23 : decode cX8_wrong 23 = .ok (.aload_n 0, 1) := by decide +kernel
theorem dX8_wrong_24 : decode cX8_wrong 24 = .ok (.iload_n 2, 1) := by decide +kernel
theorem dX8_wrong_25 : decode cX8_wrong 25 = .ok (.invokevirtual 179, 3) := by decide +kernel
theorem dX8_wrong_28 : decode cX8_wrong 28 = .ok (.ifCond .ne 9, 3) := by decide +kernel
theorem dX8_wrong_31 : decode cX8_wrong 31 = .ok (.iconst 1, 1) := by decide +kernel
theorem dX8_wrong_32 : decode cX8_wrong 32 = .ok (.iload_n 2, 1) := by decide +kernel
theorem dX8_wrong_33 : decode cX8_wrong 33 = .ok (.ishl, 1) := by decide +kernel
theorem dX8_wrong_34 : decode cX8_wrong 34 = .ok (.goto 4, 3) := by decide +kernel
theorem dX8_wrong_37 : decode cX8_wrong 37 = .ok (.iconst 0, 1) := by decide +kernel
theorem dX8_wrong_38 : decode cX8_wrong 38 = .ok (.ior, 1) := by decide +kernel
theorem dX8_wrong_39 : decode cX8_wrong 39 = .ok (.istore_n 1, 1) := by decide +kernel
theorem dX8_wrong_40 : decode cX8_wrong 40 = .ok (.iinc 2 1, 3) := by decide +kernel
theorem dX8_wrong_43 : decode cX8_wrong 43 = .ok (.goto (-35), 3) := by decide +kernel
theorem dX8_wrong_46 : decode cX8_wrong 46 = .ok (.iload_n 1, 1) := by decide +kernel
theorem dX8_wrong_47 : decode cX8_wrong 47 = .ok (.ireturn, 1) := by decide +kernel
theorem dX8_needs_0 : decode cX8_needs 0 = .ok (.iload_n 1, 1) := by decide +kernel
theorem dX8_needs_1 : decode cX8_needs 1 = .ok (.iload_n 2, 1) := by decide +kernel
theorem dX8_needs_2 : decode cX8_needs 2 = .ok (.if_icmp .eq 38, 3) := by decide +kernel
theorem dX8_needs_5 : decode cX8_needs 5 = .ok (.aload_n 0, 1) := by decide +kernel
theorem dX8_needs_6 : decode cX8_needs 6 = .ok (.getfield 9, 3) := by decide +kernel
theorem dX8_needs_9 : decode cX8_needs 9 = .ok (.bipush 50, 2) := by decide +kernel
theorem dX8_needs_11 : decode cX8_needs 11 = .ok (.iload_n 1, 1) := by decide +kernel
theorem dX8_needs_12 : decode cX8_needs 12 = .ok (.imul, 1) := by decide +kernel
theorem dX8_needs_13 : decode cX8_needs 13 = .ok (.iconst 4, 1) := by decide +kernel
theorem dX8_needs_14 : decode cX8_needs 14 = .ok (.iadd, 1) := by decide +kernel
theorem dX8_needs_15 : decode cX8_needs 15 = .ok (.iaload, 1) := by decide +kernel
theorem dX8_needs_16 : decode cX8_needs 16 = .ok (.bipush (-9), 2) := by decide +kernel
theorem dX8_needs_18 : decode cX8_needs 18 = .ok (.if_icmp .eq 26, 3) := by decide +kernel
theorem dX8_needs_21 : decode cX8_needs 21 = .ok (.aload_n 0, 1) := by decide +kernel
theorem dX8_needs_22 : decode cX8_needs 22 = .ok (.aload_n 0, 1) := by decide +kernel
theorem dX8_needs_23 : decode cX8_needs 23 = .ok (.getfield 9, 3) := by decide +kernel
theorem dX8_needs_26 : decode cX8_needs 26 = .ok (.bipush 50, 2) := by decide +kernel
theorem dX8_needs_28 : decode cX8_needs 28 = .ok (.iload_n 1, 1) := by decide +kernel
theorem dX8_needs_29 : decode cX8_needs 29 = .ok (.imul, 1) := by decide +kernel
theorem dX8_needs_30 : decode cX8_needs 30 = .ok (.iconst 4, 1) := by decide +kernel
theorem dX8_needs_31 : decode cX8_needs 31 = .ok (.iadd, 1) := by decide +kernel
theorem dX8_needs_32 : decode cX8_needs 32 = .ok (.iaload, 1) := by decide +kernel
theorem dX8_needs_33 : decode cX8_needs 33 = .ok (.iload_n 2, 1) := by decide +kernel
theorem dX8_needs_34 : decode cX8_needs 34 = .ok (.invokevirtual 197, 3) := by decide +kernel
theorem dX8_needs_37 : decode cX8_needs 37 = .ok (.ifCond .eq 7, 3) := by decide +kernel
theorem dX8_needs_40 : decode cX8_needs 40 = .ok (.iconst 1, 1) := by decide +kernel
theorem dX8_needs_41 : decode cX8_needs 41 = .ok (.goto 4, 3) := by decide +kernel
theorem dX8_needs_44 : decode cX8_needs 44 = .ok (.iconst 0, 1) := by decide +kernel
theorem dX8_needs_45 : decode cX8_needs 45 = .ok (.ireturn, 1) := by decide +kernel
theorem dX8_hurt_0 : decode cX8_hurt 0 = .ok (.aload_n 0, 1) := by decide +kernel
theorem dX8_hurt_1 : decode cX8_hurt 1 = .ok (.iload_n 1, 1) := by decide +kernel
theorem dX8_hurt_2 : decode cX8_hurt 2 = .ok (.invokevirtual 59, 3) := by decide +kernel
theorem dX8_hurt_5 : decode cX8_hurt 5 = .ok (.ifCond .ne 9, 3) := by decide +kernel
theorem dX8_hurt_8 : decode cX8_hurt 8 = .ok (.aload_n 0, 1) := by decide +kernel
theorem dX8_hurt_9 : decode cX8_hurt 9 = .ok (.iconst (-1), 1) := by decide +kernel
theorem dX8_hurt_10 : decode cX8_hurt 10 = .ok (.invokevirtual 51, 3) := by decide +kernel
theorem dX8_hurt_13 : decode cX8_hurt 13 = .ok (.ireturn, 1) := by decide +kernel
theorem dX8_hurt_14 : decode cX8_hurt 14 = .ok (.iconst 0, 1) := by decide +kernel
theorem dX8_hurt_15 : decode cX8_hurt 15 = .ok (.istore_n 2, 1) := by decide +kernel
theorem dX8_hurt_16 : decode cX8_hurt 16 = .ok (.iconst 0, 1) := by decide +kernel
theorem dX8_hurt_17 : decode cX8_hurt 17 = .ok (.istore_n 3, 1) := by decide +kernel
theorem dX8_hurt_18 : decode cX8_hurt 18 = .ok (.iload_n 3, 1) := by decide +kernel
theorem dX8_hurt_19 : decode cX8_hurt 19 = .ok (.bipush 10, 2) := by decide +kernel
theorem dX8_hurt_21 : decode cX8_hurt 21 = .ok (.if_icmp .ge 36, 3) := by decide +kernel
theorem dX8_hurt_24 : decode cX8_hurt 24 = .ok (.iload_n 2, 1) := by decide +kernel
theorem dX8_hurt_25 : decode cX8_hurt 25 = .ok (.aload_n 0, 1) := by decide +kernel
theorem dX8_hurt_26 : decode cX8_hurt 26 = .ok (.iload_n 3, 1) := by decide +kernel
theorem dX8_hurt_27 : decode cX8_hurt 27 = .ok (.invokevirtual 59, 3) := by decide +kernel
theorem dX8_hurt_30 : decode cX8_hurt 30 = .ok (.ifCond .eq 18, 3) := by decide +kernel
theorem dX8_hurt_33 : decode cX8_hurt 33 = .ok (.aload_n 0, 1) := by decide +kernel
theorem dX8_hurt_34 : decode cX8_hurt 34 = .ok (.iload_n 3, 1) := by decide +kernel
theorem dX8_hurt_35 : decode cX8_hurt 35 = .ok (.iload_n 1, 1) := by decide +kernel
theorem dX8_hurt_36 : decode cX8_hurt 36 = .ok (.invokevirtual 197, 3) := by decide +kernel
theorem dX8_hurt_39 : decode cX8_hurt 39 = .ok (.ifCond .eq 9, 3) := by decide +kernel
theorem dX8_hurt_42 : decode cX8_hurt 42 = .ok (.iconst 1, 1) := by decide +kernel
theorem dX8_hurt_43 : decode cX8_hurt 43 = .ok (.iload_n 3, 1) := by decide +kernel
theorem dX8_hurt_44 : decode cX8_hurt 44 = .ok (.ishl, 1) := by decide +kernel
theorem dX8_hurt_45 : decode cX8_hurt 45 = .ok (.goto 4, 3) := by decide +kernel
theorem dX8_hurt_48 : decode cX8_hurt 48 = .ok (.iconst 0, 1) := by decide +kernel
theorem dX8_hurt_49 : decode cX8_hurt 49 = .ok (.ior, 1) := by decide +kernel
theorem dX8_hurt_50 : decode cX8_hurt 50 = .ok (.istore_n 2, 1) := by decide +kernel
theorem dX8_hurt_51 : decode cX8_hurt 51 = .ok (.iinc 3 1, 3) := by decide +kernel
theorem dX8_hurt_54 : decode cX8_hurt 54 = .ok (.goto (-36), 3) := by decide +kernel
theorem dX8_hurt_57 : decode cX8_hurt 57 = .ok (.iload_n 2, 1) := by decide +kernel
theorem dX8_hurt_58 : decode cX8_hurt 58 = .ok (.ireturn, 1) := by decide +kernel
theorem dX8_common__0 : decode cX8_common_ 0 = .ok (.lload_n 2, 1) := by decide +kernel
theorem dX8_common__1 : decode cX8_common_ 1 = .ok (.lconst 0, 1) := by decide +kernel
theorem dX8_common__2 : decode cX8_common_ 2 = .ok (.lcmp, 1) := by decide +kernel
theorem dX8_common__3 : decode cX8_common_ 3 = .ok (.ifCond .ne 7, 3) := by decide +kernel
theorem dX8_common__6 : decode cX8_common_ 6 = .ok (.lload_n 0, 1) := by decide +kernel
theorem dX8_common__7 : decode cX8_common_ 7 = .ok (.goto 10, 3) := by decide +kernel
theorem dX8_common__10 : decode cX8_common_ 10 = .ok (.lload_n 2, 1) := by decide +kernel
theorem dX8_common__11 : decode cX8_common_ 11 = .ok (.lload_n 0, 1) := by decide +kernel
theorem dX8_common__12 : decode cX8_common_ 12 = .ok (.lload_n 2, 1) := by decide +kernel
theorem dX8_common__13 : decode cX8_common_ 13 = .ok (.lrem, 1) := by decide +kernel
theorem dX8_common__14 : decode cX8_common_ 14 = .ok (.invokestatic 200, 3) := by decide +kernel
theorem dX8_common__17 : decode cX8_common_ 17 = .ok (.lreturn, 1) := by decide +kernel
theorem dX8_part_0 : decode cX8_part 0 = .ok (.lload_n 0, 1) := by decide +kernel
theorem dX8_part_1 : decode cX8_part 1 = .ok (.lload_n 2, 1) := by decide +kernel
theorem dX8_part_2 : decode cX8_part 2 = .ok (.invokestatic 200, 3) := by decide +kernel
theorem dX8_part_5 : decode cX8_part 5 = .ok (.lstore 5, 2) := by decide +kernel
theorem dX8_part_7 : decode cX8_part 7 = .ok (.iload 4, 2) := by decide +kernel
theorem dX8_part_9 : decode cX8_part 9 = .ok (.ifCond .ne 7, 3) := by decide +kernel
theorem dX8_part_12 : decode cX8_part 12 = .ok (.lload_n 0, 1) := by decide +kernel
theorem dX8_part_13 : decode cX8_part 13 = .ok (.goto 4, 3) := by decide +kernel
theorem dX8_part_16 : decode cX8_part 16 = .ok (.lload_n 2, 1) := by decide +kernel
theorem dX8_part_17 : decode cX8_part 17 = .ok (.lload 5, 2) := by decide +kernel
theorem dX8_part_19 : decode cX8_part 19 = .ok (.ldiv, 1) := by decide +kernel
theorem dX8_part_20 : decode cX8_part 20 = .ok (.lreturn, 1) := by decide +kernel
theorem dX8_lost_0 : decode cX8_lost 0 = .ok (.iload_n 1, 1) := by decide +kernel
theorem dX8_lost_1 : decode cX8_lost 1 = .ok (.iconst 0, 1) := by decide +kernel
theorem dX8_lost_2 : decode cX8_lost 2 = .ok (.iconst 3, 1) := by decide +kernel
theorem dX8_lost_3 : decode cX8_lost 3 = .ok (.invokestatic 55, 3) := by decide +kernel
theorem dX8_lost_6 : decode cX8_lost 6 = .ok (.ifCond .ne 9, 3) := by decide +kernel
theorem dX8_lost_9 : decode cX8_lost 9 = .ok (.aload_n 0, 1) := by decide +kernel
theorem dX8_lost_10 : decode cX8_lost 10 = .ok (.iconst (-1), 1) := by decide +kernel
theorem dX8_lost_11 : decode cX8_lost 11 = .ok (.invokevirtual 204, 3) := by decide +kernel
theorem dX8_lost_14 : decode cX8_lost 14 = .ok (.lreturn, 1) := by decide +kernel
theorem dX8_lost_15 : decode cX8_lost 15 = .ok (.aload_n 0, 1) := by decide +kernel
theorem dX8_lost_16 : decode cX8_lost 16 = .ok (.getfield 9, 3) := by decide +kernel
theorem dX8_lost_19 : decode cX8_lost 19 = .ok (.sipush 501, 3) := by decide +kernel
theorem dX8_lost_22 : decode cX8_lost 22 = .ok (.iload_n 1, 1) := by decide +kernel
theorem dX8_lost_23 : decode cX8_lost 23 = .ok (.iadd, 1) := by decide +kernel
theorem dX8_lost_24 : decode cX8_lost 24 = .ok (.iaload, 1) := by decide +kernel
theorem dX8_lost_25 : decode cX8_lost 25 = .ok (.bipush (-9), 2) := by decide +kernel
theorem dX8_lost_27 : decode cX8_lost 27 = .ok (.if_icmp .ne 10, 3) := by decide +kernel
theorem dX8_lost_30 : decode cX8_lost 30 = .ok (.aload_n 0, 1) := by decide +kernel
theorem dX8_lost_31 : decode cX8_lost 31 = .ok (.bipush (-3), 2) := by decide +kernel
theorem dX8_lost_33 : decode cX8_lost 33 = .ok (.invokevirtual 204, 3) := by decide +kernel
theorem dX8_lost_36 : decode cX8_lost 36 = .ok (.lreturn, 1) := by decide +kernel
theorem dX8_lost_37 : decode cX8_lost 37 = .ok (.iload_n 2, 1) := by decide +kernel
theorem dX8_lost_38 : decode cX8_lost 38 = .ok (.iconst 2, 1) := by decide +kernel
theorem dX8_lost_39 : decode cX8_lost 39 = .ok (.if_icmp .ge 10, 3) := by decide +kernel
theorem dX8_lost_42 : decode cX8_lost 42 = .ok (.aload_n 0, 1) := by decide +kernel
theorem dX8_lost_43 : decode cX8_lost 43 = .ok (.bipush (-4), 2) := by decide +kernel
theorem dX8_lost_45 : decode cX8_lost 45 = .ok (.invokevirtual 204, 3) := by decide +kernel
theorem dX8_lost_48 : decode cX8_lost 48 = .ok (.lreturn, 1) := by decide +kernel
theorem dX8_lost_49 : decode cX8_lost 49 = .ok (.iload_n 2, 1) := by decide +kernel
theorem dX8_lost_50 : decode cX8_lost 50 = .ok (.bipush 20, 2) := by decide +kernel
theorem dX8_lost_52 : decode cX8_lost 52 = .ok (.if_icmp .le 10, 3) := by decide +kernel
theorem dX8_lost_55 : decode cX8_lost 55 = .ok (.aload_n 0, 1) := by decide +kernel
theorem dX8_lost_56 : decode cX8_lost 56 = .ok (.bipush (-6), 2) := by decide +kernel
theorem dX8_lost_58 : decode cX8_lost 58 = .ok (.invokevirtual 204, 3) := by decide +kernel
theorem dX8_lost_61 : decode cX8_lost 61 = .ok (.lreturn, 1) := by decide +kernel
theorem dX8_lost_62 : decode cX8_lost 62 = .ok (.iload_n 3, 1) := by decide +kernel
theorem dX8_lost_63 : decode cX8_lost 63 = .ok (.iconst 0, 1) := by decide +kernel
theorem dX8_lost_64 : decode cX8_lost 64 = .ok (.iconst 1, 1) := by decide +kernel
theorem dX8_lost_65 : decode cX8_lost 65 = .ok (.invokestatic 55, 3) := by decide +kernel
theorem dX8_lost_68 : decode cX8_lost 68 = .ok (.ifCond .ne 10, 3) := by decide +kernel
theorem dX8_lost_71 : decode cX8_lost 71 = .ok (.aload_n 0, 1) := by decide +kernel
theorem dX8_lost_72 : decode cX8_lost 72 = .ok (.bipush (-2), 2) := by decide +kernel
theorem dX8_lost_74 : decode cX8_lost 74 = .ok (.invokevirtual 204, 3) := by decide +kernel
theorem dX8_lost_77 : decode cX8_lost 77 = .ok (.lreturn, 1) := by decide +kernel
theorem dX8_lost_78 : decode cX8_lost 78 = .ok (.lconst 1, 1) := by decide +kernel
theorem dX8_lost_79 : decode cX8_lost 79 = .ok (.lstore 4, 2) := by decide +kernel
theorem dX8_lost_81 : decode cX8_lost 81 = .ok (.lconst 1, 1) := by decide +kernel
theorem dX8_lost_82 : decode cX8_lost 82 = .ok (.lstore 6, 2) := by decide +kernel
theorem dX8_lost_84 : decode cX8_lost 84 = .ok (.iconst 0, 1) := by decide +kernel
theorem dX8_lost_85 : decode cX8_lost 85 = .ok (.istore 8, 2) := by decide +kernel
theorem dX8_lost_87 : decode cX8_lost 87 = .ok (.iload 8, 2) := by decide +kernel
theorem dX8_lost_89 : decode cX8_lost 89 = .ok (.bipush 6, 2) := by decide +kernel
theorem dX8_lost_91 : decode cX8_lost 91 = .ok (.if_icmp .ge 56, 3) := by decide +kernel
theorem dX8_lost_94 : decode cX8_lost 94 = .ok (.aload_n 0, 1) := by decide +kernel
theorem dX8_lost_95 : decode cX8_lost 95 = .ok (.iload 8, 2) := by decide +kernel
theorem dX8_lost_97 : decode cX8_lost 97 = .ok (.invokevirtual 59, 3) := by decide +kernel
theorem dX8_lost_100 : decode cX8_lost 100 = .ok (.ifCond .eq 41, 3) := by decide +kernel
theorem dX8_lost_103 : decode cX8_lost 103 = .ok (.aload_n 0, 1) := by decide +kernel
theorem dX8_lost_104 : decode cX8_lost 104 = .ok (.aload_n 0, 1) := by decide +kernel
theorem dX8_lost_105 : decode cX8_lost 105 = .ok (.getfield 9, 3) := by decide +kernel
theorem dX8_lost_108 : decode cX8_lost 108 = .ok (.sipush 501, 3) := by decide +kernel
theorem dX8_lost_111 : decode cX8_lost 111 = .ok (.iload_n 1, 1) := by decide +kernel
theorem dX8_lost_112 : decode cX8_lost 112 = .ok (.iadd, 1) := by decide +kernel
theorem dX8_lost_113 : decode cX8_lost 113 = .ok (.iaload, 1) := by decide +kernel
theorem dX8_lost_114 : decode cX8_lost 114 = .ok (.iload 8, 2) := by decide +kernel
theorem dX8_lost_116 : decode cX8_lost 116 = .ok (.invokevirtual 197, 3) := by decide +kernel
theorem dX8_lost_119 : decode cX8_lost 119 = .ok (.ifCond .ne 6, 3) := by decide +kernel
theorem dX8_lost_122 : decode cX8_lost 122 = .ok (.goto 19, 3) := by decide +kernel
theorem dX8_lost_125 : decode cX8_lost 125 = .ok (.lload 4, 2) := by decide +kernel
theorem dX8_lost_127 : decode cX8_lost 127 = .ok (.iload_n 2, 1) := by decide +kernel
theorem dX8_lost_128 : decode cX8_lost 128 = .ok (.iconst 1, 1) := by decide +kernel
theorem dX8_lost_129 : decode cX8_lost 129 = .ok (.isub, 1) := by decide +kernel
theorem dX8_lost_130 : decode cX8_lost 130 = .ok (.i2l, 1) := by decide +kernel
theorem dX8_lost_131 : decode cX8_lost 131 = .ok (.lmul, 1) := by decide +kernel
theorem dX8_lost_132 : decode cX8_lost 132 = .ok (.lstore 4, 2) := by decide +kernel
theorem dX8_lost_134 : decode cX8_lost 134 = .ok (.lload 6, 2) := by decide +kernel
theorem dX8_lost_136 : decode cX8_lost 136 = .ok (.iload_n 2, 1) := by decide +kernel
theorem dX8_lost_137 : decode cX8_lost 137 = .ok (.i2l, 1) := by decide +kernel
theorem dX8_lost_138 : decode cX8_lost 138 = .ok (.lmul, 1) := by decide +kernel
theorem dX8_lost_139 : decode cX8_lost 139 = .ok (.lstore 6, 2) := by decide +kernel
theorem dX8_lost_141 : decode cX8_lost 141 = .ok (.iinc 8 1, 3) := by decide +kernel
theorem dX8_lost_144 : decode cX8_lost 144 = .ok (.goto (-57), 3) := by decide +kernel
theorem dX8_lost_147 : decode cX8_lost 147 = .ok (.lload 4, 2) := by decide +kernel
theorem dX8_lost_149 : decode cX8_lost 149 = .ok (.lload 6, 2) := by decide +kernel
theorem dX8_lost_151 : decode cX8_lost 151 = .ok (.iload_n 3, 1) := by decide +kernel
theorem dX8_lost_152 : decode cX8_lost 152 = .ok (.invokestatic 208, 3) := by decide +kernel
theorem dX8_lost_155 : decode cX8_lost 155 = .ok (.lreturn, 1) := by decide +kernel
theorem dX8_mean_0 : decode cX8_mean 0 = .ok (.iload_n 1, 1) := by decide +kernel
theorem dX8_mean_1 : decode cX8_mean 1 = .ok (.iconst 0, 1) := by decide +kernel
theorem dX8_mean_2 : decode cX8_mean 2 = .ok (.iconst 1, 1) := by decide +kernel
theorem dX8_mean_3 : decode cX8_mean 3 = .ok (.invokestatic 55, 3) := by decide +kernel
theorem dX8_mean_6 : decode cX8_mean 6 = .ok (.ifCond .ne 10, 3) := by decide +kernel
theorem dX8_mean_9 : decode cX8_mean 9 = .ok (.aload_n 0, 1) := by decide +kernel
theorem dX8_mean_10 : decode cX8_mean 10 = .ok (.bipush (-2), 2) := by decide +kernel
theorem dX8_mean_12 : decode cX8_mean 12 = .ok (.invokevirtual 204, 3) := by decide +kernel
theorem dX8_mean_15 : decode cX8_mean 15 = .ok (.lreturn, 1) := by decide +kernel
theorem dX8_mean_16 : decode cX8_mean 16 = .ok (.aload_n 0, 1) := by decide +kernel
theorem dX8_mean_17 : decode cX8_mean 17 = .ok (.invokevirtual 142, 3) := by decide +kernel
theorem dX8_mean_20 : decode cX8_mean 20 = .ok (.invokestatic 148, 3) := by decide +kernel
theorem dX8_mean_23 : decode cX8_mean 23 = .ok (.istore_n 2, 1) := by decide +kernel
theorem dX8_mean_24 : decode cX8_mean 24 = .ok (.iload_n 2, 1) := by decide +kernel
theorem dX8_mean_25 : decode cX8_mean 25 = .ok (.ifCond .ne 8, 3) := by decide +kernel
theorem dX8_mean_28 : decode cX8_mean 28 = .ok (.iload_n 1, 1) := by decide +kernel
theorem dX8_mean_29 : decode cX8_mean 29 = .ok (.i2l, 1) := by decide +kernel
theorem dX8_mean_30 : decode cX8_mean 30 = .ok (.goto 14, 3) := by decide +kernel
theorem dX8_mean_33 : decode cX8_mean 33 = .ok (.aload_n 0, 1) := by decide +kernel
theorem dX8_mean_34 : decode cX8_mean 34 = .ok (.invokevirtual 112, 3) := by decide +kernel
theorem dX8_mean_37 : decode cX8_mean 37 = .ok (.i2l, 1) := by decide +kernel
theorem dX8_mean_38 : decode cX8_mean 38 = .ok (.iload_n 2, 1) := by decide +kernel
theorem dX8_mean_39 : decode cX8_mean 39 = .ok (.i2l, 1) := by decide +kernel
theorem dX8_mean_40 : decode cX8_mean 40 = .ok (.iload_n 1, 1) := by decide +kernel
theorem dX8_mean_41 : decode cX8_mean 41 = .ok (.invokestatic 208, 3) := by decide +kernel
theorem dX8_mean_44 : decode cX8_mean 44 = .ok (.lreturn, 1) := by decide +kernel
theorem dX8_fitsRow_0 : decode cX8_fitsRow 0 = .ok (.iconst 0, 1) := by decide +kernel
theorem dX8_fitsRow_1 : decode cX8_fitsRow 1 = .ok (.istore_n 1, 1) := by decide +kernel
theorem dX8_fitsRow_2 : decode cX8_fitsRow 2 = .ok (.iload_n 1, 1) := by decide +kernel
theorem dX8_fitsRow_3 : decode cX8_fitsRow 3 = .ok (.aload_n 0, 1) := by decide +kernel
theorem dX8_fitsRow_4 : decode cX8_fitsRow 4 = .ok (.getfield 212, 3) := by decide +kernel
theorem dX8_fitsRow_7 : decode cX8_fitsRow 7 = .ok (.if_icmp .ge 67, 3) := by decide +kernel
theorem dX8_fitsRow_10 : decode cX8_fitsRow 10 = .ok (.aload_n 0, 1) := by decide +kernel
theorem dX8_fitsRow_11 : decode cX8_fitsRow 11 = .ok (.iload_n 1, 1) := by decide +kernel
theorem dX8_fitsRow_12 : decode cX8_fitsRow 12 = .ok (.invokevirtual 59, 3) := by decide +kernel
theorem dX8_fitsRow_15 : decode cX8_fitsRow 15 = .ok (.ifCond .ne 8, 3) := by decide +kernel
theorem dX8_fitsRow_18 : decode cX8_fitsRow 18 = .ok (.bipush 11, 2) := by decide +kernel
theorem dX8_fitsRow_20 : decode cX8_fitsRow 20 = .ok (.goto 35, 3) := by decide +kernel
theorem dX8_fitsRow_23 : decode cX8_fitsRow 23 = .ok (.aload_n 0, 1) := by decide +kernel
theorem dX8_fitsRow_24 : decode cX8_fitsRow 24 = .ok (.getfield 9, 3) := by decide +kernel
theorem dX8_fitsRow_27 : decode cX8_fitsRow 27 = .ok (.bipush 50, 2) := by decide +kernel
theorem dX8_fitsRow_29 : decode cX8_fitsRow 29 = .ok (.iload_n 1, 1) := by decide +kernel
theorem dX8_fitsRow_30 : decode cX8_fitsRow 30 = .ok (.imul, 1) := by decide +kernel
theorem dX8_fitsRow_31 : decode cX8_fitsRow 31 = .ok (.iconst 4, 1) := by decide +kernel
theorem dX8_fitsRow_32 : decode cX8_fitsRow 32 = .ok (.iadd, 1) := by decide +kernel
theorem dX8_fitsRow_33 : decode cX8_fitsRow 33 = .ok (.iaload, 1) := by decide +kernel
theorem dX8_fitsRow_34 : decode cX8_fitsRow 34 = .ok (.bipush (-9), 2) := by decide +kernel
theorem dX8_fitsRow_36 : decode cX8_fitsRow 36 = .ok (.if_icmp .ne 8, 3) := by decide +kernel
theorem dX8_fitsRow_39 : decode cX8_fitsRow 39 = .ok (.bipush 10, 2) := by decide +kernel
theorem dX8_fitsRow_41 : decode cX8_fitsRow 41 = .ok (.goto 14, 3) := by decide +kernel
theorem dX8_fitsRow_44 : decode cX8_fitsRow 44 = .ok (.aload_n 0, 1) := by decide +kernel
theorem dX8_fitsRow_45 : decode cX8_fitsRow 45 = .ok (.getfield 9, 3) := by decide +kernel
theorem dX8_fitsRow_48 : decode cX8_fitsRow 48 = .ok (.bipush 50, 2) := by decide +kernel
theorem dX8_fitsRow_50 : decode cX8_fitsRow 50 = .ok (.iload_n 1, 1) := by decide +kernel
theorem dX8_fitsRow_51 : decode cX8_fitsRow 51 = .ok (.imul, 1) := by decide +kernel
theorem dX8_fitsRow_52 : decode cX8_fitsRow 52 = .ok (.iconst 4, 1) := by decide +kernel
theorem dX8_fitsRow_53 : decode cX8_fitsRow 53 = .ok (.iadd, 1) := by decide +kernel
theorem dX8_fitsRow_54 : decode cX8_fitsRow 54 = .ok (.iaload, 1) := by decide +kernel
theorem dX8_fitsRow_55 : decode cX8_fitsRow 55 = .ok (.istore_n 2, 1) := by decide +kernel
theorem dX8_fitsRow_56 : decode cX8_fitsRow 56 = .ok (.aload_n 0, 1) := by decide +kernel
theorem dX8_fitsRow_57 : decode cX8_fitsRow 57 = .ok (.getfield 28, 3) := by decide +kernel
theorem dX8_fitsRow_60 : decode cX8_fitsRow 60 = .ok (.iload_n 1, 1) := by decide +kernel
theorem dX8_fitsRow_61 : decode cX8_fitsRow 61 = .ok (.iaload, 1) := by decide +kernel
theorem dX8_fitsRow_62 : decode cX8_fitsRow 62 = .ok (.iload_n 2, 1) := by decide +kernel
theorem dX8_fitsRow_63 : decode cX8_fitsRow 63 = .ok (.if_icmp .eq 5, 3) := by decide +kernel
theorem dX8_fitsRow_66 : decode cX8_fitsRow 66 = .ok (.iconst 0, 1) := by decide +kernel
theorem dX8_fitsRow_67 : decode cX8_fitsRow 67 = .ok (.ireturn, 1) := by decide +kernel
theorem dX8_fitsRow_68 : decode cX8_fitsRow 68 = .ok (.iinc 1 1, 3) := by decide +kernel
theorem dX8_fitsRow_71 : decode cX8_fitsRow 71 = .ok (.goto (-69), 3) := by decide +kernel
theorem dX8_fitsRow_74 : decode cX8_fitsRow 74 = .ok (.iconst 1, 1) := by decide +kernel
theorem dX8_fitsRow_75 : decode cX8_fitsRow 75 = .ok (.ireturn, 1) := by decide +kernel
theorem dX8_whatIs_0 : decode cX8_whatIs 0 = .ok (.iload_n 1, 1) := by decide +kernel
theorem dX8_whatIs_1 : decode cX8_whatIs 1 = .ok (.iconst 0, 1) := by decide +kernel
theorem dX8_whatIs_2 : decode cX8_whatIs 2 = .ok (.iconst 1, 1) := by decide +kernel
theorem dX8_whatIs_3 : decode cX8_whatIs 3 = .ok (.invokestatic 55, 3) := by decide +kernel
theorem dX8_whatIs_6 : decode cX8_whatIs 6 = .ok (.ifCond .ne 10, 3) := by decide +kernel
theorem dX8_whatIs_9 : decode cX8_whatIs 9 = .ok (.aload_n 0, 1) := by decide +kernel
theorem dX8_whatIs_10 : decode cX8_whatIs 10 = .ok (.bipush (-2), 2) := by decide +kernel
theorem dX8_whatIs_12 : decode cX8_whatIs 12 = .ok (.invokevirtual 51, 3) := by decide +kernel
theorem dX8_whatIs_15 : decode cX8_whatIs 15 = .ok (.ireturn, 1) := by decide +kernel
theorem dX8_whatIs_16 : decode cX8_whatIs 16 = .ok (.aload_n 0, 1) := by decide +kernel
theorem dX8_whatIs_17 : decode cX8_whatIs 17 = .ok (.getfield 9, 3) := by decide +kernel
theorem dX8_whatIs_20 : decode cX8_whatIs 20 = .ok (.aload_n 0, 1) := by decide +kernel
theorem dX8_whatIs_21 : decode cX8_whatIs 21 = .ok (.getfield 16, 3) := by decide +kernel
theorem dX8_whatIs_24 : decode cX8_whatIs 24 = .ok (.invokestatic 176, 3) := by decide +kernel
theorem dX8_whatIs_27 : decode cX8_whatIs 27 = .ok (.iconst 0, 1) := by decide +kernel
theorem dX8_whatIs_28 : decode cX8_whatIs 28 = .ok (.istore_n 2, 1) := by decide +kernel
theorem dX8_whatIs_29 : decode cX8_whatIs 29 = .ok (.iconst 0, 1) := by decide +kernel
theorem dX8_whatIs_30 : decode cX8_whatIs 30 = .ok (.istore_n 3, 1) := by decide +kernel
theorem dX8_whatIs_31 : decode cX8_whatIs 31 = .ok (.iload_n 3, 1) := by decide +kernel
theorem dX8_whatIs_32 : decode cX8_whatIs 32 = .ok (.iload_n 1, 1) := by decide +kernel
theorem dX8_whatIs_33 : decode cX8_whatIs 33 = .ok (.ifCond .ne 7, 3) := by decide +kernel
theorem dX8_whatIs_36 : decode cX8_whatIs 36 = .ok (.iconst 5, 1) := by decide +kernel
theorem dX8_whatIs_37 : decode cX8_whatIs 37 = .ok (.goto 5, 3) := by decide +kernel
theorem dX8_whatIs_40 : decode cX8_whatIs 40 = .ok (.bipush 9, 2) := by decide +kernel
theorem dX8_whatIs_42 : decode cX8_whatIs 42 = .ok (.if_icmp .gt 61, 3) := by decide +kernel
theorem dX8_whatIs_45 : decode cX8_whatIs 45 = .ok (.aload_n 0, 1) := by decide +kernel
theorem dX8_whatIs_46 : decode cX8_whatIs 46 = .ok (.getfield 9, 3) := by decide +kernel
theorem dX8_whatIs_49 : decode cX8_whatIs 49 = .ok (.iload_n 1, 1) := by decide +kernel
theorem dX8_whatIs_50 : decode cX8_whatIs 50 = .ok (.ifCond .ne 9, 3) := by decide +kernel
theorem dX8_whatIs_53 : decode cX8_whatIs 53 = .ok (.sipush 505, 3) := by decide +kernel
theorem dX8_whatIs_56 : decode cX8_whatIs 56 = .ok (.goto 6, 3) := by decide +kernel
theorem dX8_whatIs_59 : decode cX8_whatIs 59 = .ok (.sipush 506, 3) := by decide +kernel
theorem dX8_whatIs_62 : decode cX8_whatIs 62 = .ok (.iload_n 3, 1) := by decide +kernel
theorem dX8_whatIs_63 : decode cX8_whatIs 63 = .ok (.iastore, 1) := by decide +kernel
theorem dX8_whatIs_64 : decode cX8_whatIs 64 = .ok (.aload_n 0, 1) := by decide +kernel
theorem dX8_whatIs_65 : decode cX8_whatIs 65 = .ok (.invokevirtual 133, 3) := by decide +kernel
theorem dX8_whatIs_68 : decode cX8_whatIs 68 = .ok (.pop, 1) := by decide +kernel
theorem dX8_whatIs_69 : decode cX8_whatIs 69 = .ok (.iload_n 2, 1) := by decide +kernel
theorem dX8_whatIs_70 : decode cX8_whatIs 70 = .ok (.aload_n 0, 1) := by decide +kernel
theorem dX8_whatIs_71 : decode cX8_whatIs 71 = .ok (.invokevirtual 215, 3) := by decide +kernel
theorem dX8_whatIs_74 : decode cX8_whatIs 74 = .ok (.ifCond .eq 9, 3) := by decide +kernel
theorem dX8_whatIs_77 : decode cX8_whatIs 77 = .ok (.iconst 1, 1) := by decide +kernel
theorem dX8_whatIs_78 : decode cX8_whatIs 78 = .ok (.iload_n 3, 1) := by decide +kernel
theorem dX8_whatIs_79 : decode cX8_whatIs 79 = .ok (.ishl, 1) := by decide +kernel
theorem dX8_whatIs_80 : decode cX8_whatIs 80 = .ok (.goto 4, 3) := by decide +kernel
theorem dX8_whatIs_83 : decode cX8_whatIs 83 = .ok (.iconst 0, 1) := by decide +kernel
theorem dX8_whatIs_84 : decode cX8_whatIs 84 = .ok (.ior, 1) := by decide +kernel
theorem dX8_whatIs_85 : decode cX8_whatIs 85 = .ok (.istore_n 2, 1) := by decide +kernel
theorem dX8_whatIs_86 : decode cX8_whatIs 86 = .ok (.aload_n 0, 1) := by decide +kernel
theorem dX8_whatIs_87 : decode cX8_whatIs 87 = .ok (.getfield 16, 3) := by decide +kernel
theorem dX8_whatIs_90 : decode cX8_whatIs 90 = .ok (.aload_n 0, 1) := by decide +kernel
theorem dX8_whatIs_91 : decode cX8_whatIs 91 = .ok (.getfield 9, 3) := by decide +kernel
theorem dX8_whatIs_94 : decode cX8_whatIs 94 = .ok (.invokestatic 176, 3) := by decide +kernel
theorem dX8_whatIs_97 : decode cX8_whatIs 97 = .ok (.iinc 3 1, 3) := by decide +kernel
theorem dX8_whatIs_100 : decode cX8_whatIs 100 = .ok (.goto (-69), 3) := by decide +kernel
theorem dX8_whatIs_103 : decode cX8_whatIs 103 = .ok (.iload_n 2, 1) := by decide +kernel
theorem dX8_whatIs_104 : decode cX8_whatIs 104 = .ok (.ireturn, 1) := by decide +kernel
theorem dX8_row_0 : decode cX8_row 0 = .ok (.iload_n 1, 1) := by decide +kernel
theorem dX8_row_1 : decode cX8_row 1 = .ok (.ifCond .ge 10, 3) := by decide +kernel
theorem dX8_row_4 : decode cX8_row 4 = .ok (.aload_n 0, 1) := by decide +kernel
theorem dX8_row_5 : decode cX8_row 5 = .ok (.bipush (-4), 2) := by decide +kernel
theorem dX8_row_7 : decode cX8_row 7 = .ok (.invokevirtual 51, 3) := by decide +kernel
theorem dX8_row_10 : decode cX8_row 10 = .ok (.ireturn, 1) := by decide +kernel
theorem dX8_row_11 : decode cX8_row 11 = .ok (.iload_n 1, 1) := by decide +kernel
theorem dX8_row_12 : decode cX8_row 12 = .ok (.bipush 99, 2) := by decide +kernel
theorem dX8_row_14 : decode cX8_row 14 = .ok (.if_icmp .gt 12, 3) := by decide +kernel
theorem dX8_row_17 : decode cX8_row 17 = .ok (.aload_n 0, 1) := by decide +kernel
theorem dX8_row_18 : decode cX8_row 18 = .ok (.getfield 212, 3) := by decide +kernel
theorem dX8_row_21 : decode cX8_row 21 = .ok (.bipush 12, 2) := by decide +kernel
theorem dX8_row_23 : decode cX8_row 23 = .ok (.if_icmp .ne 10, 3) := by decide +kernel
theorem dX8_row_26 : decode cX8_row 26 = .ok (.aload_n 0, 1) := by decide +kernel
theorem dX8_row_27 : decode cX8_row 27 = .ok (.bipush (-6), 2) := by decide +kernel
theorem dX8_row_29 : decode cX8_row 29 = .ok (.invokevirtual 51, 3) := by decide +kernel
theorem dX8_row_32 : decode cX8_row 32 = .ok (.ireturn, 1) := by decide +kernel
theorem dX8_row_33 : decode cX8_row 33 = .ok (.aload_n 0, 1) := by decide +kernel
theorem dX8_row_34 : decode cX8_row 34 = .ok (.getfield 28, 3) := by decide +kernel
theorem dX8_row_37 : decode cX8_row 37 = .ok (.aload_n 0, 1) := by decide +kernel
theorem dX8_row_38 : decode cX8_row 38 = .ok (.getfield 212, 3) := by decide +kernel
theorem dX8_row_41 : decode cX8_row 41 = .ok (.iload_n 1, 1) := by decide +kernel
theorem dX8_row_42 : decode cX8_row 42 = .ok (.iastore, 1) := by decide +kernel
theorem dX8_row_43 : decode cX8_row 43 = .ok (.aload_n 0, 1) := by decide +kernel
theorem dX8_row_44 : decode cX8_row 44 = .ok (.dup, 1) := by decide +kernel
theorem dX8_row_45 : decode cX8_row 45 = .ok (.getfield 212, 3) := by decide +kernel
theorem dX8_row_48 : decode cX8_row 48 = .ok (.iconst 1, 1) := by decide +kernel
theorem dX8_row_49 : decode cX8_row 49 = .ok (.iadd, 1) := by decide +kernel
theorem dX8_row_50 : decode cX8_row 50 = .ok (.putfield 212, 3) := by decide +kernel
theorem dX8_row_53 : decode cX8_row 53 = .ok (.aload_n 0, 1) := by decide +kernel
theorem dX8_row_54 : decode cX8_row 54 = .ok (.getfield 212, 3) := by decide +kernel
theorem dX8_row_57 : decode cX8_row 57 = .ok (.ireturn, 1) := by decide +kernel
theorem dX8_judge_0 : decode cX8_judge 0 = .ok (.aload_n 0, 1) := by decide +kernel
theorem dX8_judge_1 : decode cX8_judge 1 = .ok (.iload_n 1, 1) := by decide +kernel
theorem dX8_judge_2 : decode cX8_judge 2 = .ok (.invokevirtual 59, 3) := by decide +kernel
theorem dX8_judge_5 : decode cX8_judge 5 = .ok (.ifCond .ne 9, 3) := by decide +kernel
theorem dX8_judge_8 : decode cX8_judge 8 = .ok (.aload_n 0, 1) := by decide +kernel
theorem dX8_judge_9 : decode cX8_judge 9 = .ok (.iconst (-1), 1) := by decide +kernel
theorem dX8_judge_10 : decode cX8_judge 10 = .ok (.invokevirtual 51, 3) := by decide +kernel
theorem dX8_judge_13 : decode cX8_judge 13 = .ok (.ireturn, 1) := by decide +kernel
theorem dX8_judge_14 : decode cX8_judge 14 = .ok (.aload_n 0, 1) := by decide +kernel
theorem dX8_judge_15 : decode cX8_judge 15 = .ok (.invokevirtual 84, 3) := by decide +kernel
theorem dX8_judge_18 : decode cX8_judge 18 = .ok (.aload_n 0, 1) := by decide +kernel
theorem dX8_judge_19 : decode cX8_judge 19 = .ok (.getfield 212, 3) := by decide +kernel
theorem dX8_judge_22 : decode cX8_judge 22 = .ok (.aload_n 0, 1) := by decide +kernel
theorem dX8_judge_23 : decode cX8_judge 23 = .ok (.getfield 34, 3) := by decide +kernel
theorem dX8_judge_26 : decode cX8_judge 26 = .ok (.iload_n 1, 1) := by decide +kernel
theorem dX8_judge_27 : decode cX8_judge 27 = .ok (.iaload, 1) := by decide +kernel
theorem dX8_judge_28 : decode cX8_judge 28 = .ok (.if_icmp .ge 10, 3) := by decide +kernel
theorem dX8_judge_31 : decode cX8_judge 31 = .ok (.aload_n 0, 1) := by decide +kernel
theorem dX8_judge_32 : decode cX8_judge 32 = .ok (.getfield 212, 3) := by decide +kernel
theorem dX8_judge_35 : decode cX8_judge 35 = .ok (.goto 5, 3) := by decide +kernel
theorem dX8_judge_38 : decode cX8_judge 38 = .ok (.bipush (-9), 2) := by decide +kernel
theorem dX8_judge_40 : decode cX8_judge 40 = .ok (.istore_n 2, 1) := by decide +kernel
theorem dX8_judge_41 : decode cX8_judge 41 = .ok (.aload_n 0, 1) := by decide +kernel
theorem dX8_judge_42 : decode cX8_judge 42 = .ok (.getfield 212, 3) := by decide +kernel
theorem dX8_judge_45 : decode cX8_judge 45 = .ok (.iconst 1, 1) := by decide +kernel
theorem dX8_judge_46 : decode cX8_judge 46 = .ok (.isub, 1) := by decide +kernel
theorem dX8_judge_47 : decode cX8_judge 47 = .ok (.istore_n 3, 1) := by decide +kernel
theorem dX8_judge_48 : decode cX8_judge 48 = .ok (.iload_n 3, 1) := by decide +kernel
theorem dX8_judge_49 : decode cX8_judge 49 = .ok (.ifCond .lt 45, 3) := by decide +kernel
theorem dX8_judge_52 : decode cX8_judge 52 = .ok (.iload_n 3, 1) := by decide +kernel
theorem dX8_judge_53 : decode cX8_judge 53 = .ok (.aload_n 0, 1) := by decide +kernel
theorem dX8_judge_54 : decode cX8_judge 54 = .ok (.getfield 34, 3) := by decide +kernel
theorem dX8_judge_57 : decode cX8_judge 57 = .ok (.iload_n 1, 1) := by decide +kernel
theorem dX8_judge_58 : decode cX8_judge 58 = .ok (.iaload, 1) := by decide +kernel
theorem dX8_judge_59 : decode cX8_judge 59 = .ok (.if_icmp .ge 23, 3) := by decide +kernel
theorem dX8_judge_62 : decode cX8_judge 62 = .ok (.aload_n 0, 1) := by decide +kernel
theorem dX8_judge_63 : decode cX8_judge 63 = .ok (.getfield 28, 3) := by decide +kernel
theorem dX8_judge_66 : decode cX8_judge 66 = .ok (.iload_n 3, 1) := by decide +kernel
theorem dX8_judge_67 : decode cX8_judge 67 = .ok (.iaload, 1) := by decide +kernel
theorem dX8_judge_68 : decode cX8_judge 68 = .ok (.aload_n 0, 1) := by decide +kernel
theorem dX8_judge_69 : decode cX8_judge 69 = .ok (.getfield 31, 3) := by decide +kernel
theorem dX8_judge_72 : decode cX8_judge 72 = .ok (.bipush 12, 2) := by decide +kernel
theorem dX8_judge_74 : decode cX8_judge 74 = .ok (.iload_n 1, 1) := by decide +kernel
theorem dX8_judge_75 : decode cX8_judge 75 = .ok (.imul, 1) := by decide +kernel
theorem dX8_judge_76 : decode cX8_judge 76 = .ok (.iload_n 3, 1) := by decide +kernel
theorem dX8_judge_77 : decode cX8_judge 77 = .ok (.iadd, 1) := by decide +kernel
theorem dX8_judge_78 : decode cX8_judge 78 = .ok (.iaload, 1) := by decide +kernel
theorem dX8_judge_79 : decode cX8_judge 79 = .ok (.if_icmp .eq 7, 3) := by decide +kernel
theorem dX8_judge_82 : decode cX8_judge 82 = .ok (.iload_n 3, 1) := by decide +kernel
theorem dX8_judge_83 : decode cX8_judge 83 = .ok (.goto 4, 3) := by decide +kernel
theorem dX8_judge_86 : decode cX8_judge 86 = .ok (.iload_n 2, 1) := by decide +kernel
theorem dX8_judge_87 : decode cX8_judge 87 = .ok (.istore_n 2, 1) := by decide +kernel
theorem dX8_judge_88 : decode cX8_judge 88 = .ok (.iinc 3 (-1), 3) := by decide +kernel
theorem dX8_judge_91 : decode cX8_judge 91 = .ok (.goto (-43), 3) := by decide +kernel
theorem dX8_judge_94 : decode cX8_judge 94 = .ok (.aload_n 0, 1) := by decide +kernel
theorem dX8_judge_95 : decode cX8_judge 95 = .ok (.iconst 0, 1) := by decide +kernel
theorem dX8_judge_96 : decode cX8_judge 96 = .ok (.putfield 212, 3) := by decide +kernel
theorem dX8_judge_99 : decode cX8_judge 99 = .ok (.iload_n 2, 1) := by decide +kernel
theorem dX8_judge_100 : decode cX8_judge 100 = .ok (.ireturn, 1) := by decide +kernel
theorem dX8_clear_0 : decode cX8_clear 0 = .ok (.aload_n 0, 1) := by decide +kernel
theorem dX8_clear_1 : decode cX8_clear 1 = .ok (.getfield 212, 3) := by decide +kernel
theorem dX8_clear_4 : decode cX8_clear 4 = .ok (.istore_n 1, 1) := by decide +kernel
theorem dX8_clear_5 : decode cX8_clear 5 = .ok (.aload_n 0, 1) := by decide +kernel
theorem dX8_clear_6 : decode cX8_clear 6 = .ok (.iconst 0, 1) := by decide +kernel
theorem dX8_clear_7 : decode cX8_clear 7 = .ok (.putfield 212, 3) := by decide +kernel
theorem dX8_clear_10 : decode cX8_clear 10 = .ok (.iload_n 1, 1) := by decide +kernel
theorem dX8_clear_11 : decode cX8_clear 11 = .ok (.ireturn, 1) := by decide +kernel
theorem dX8_draw_0 : decode cX8_draw 0 = .ok (.aload_n 0, 1) := by decide +kernel
theorem dX8_draw_1 : decode cX8_draw 1 = .ok (.aload_n 0, 1) := by decide +kernel
theorem dX8_draw_2 : decode cX8_draw 2 = .ok (.getfield 219, 3) := by decide +kernel
theorem dX8_draw_5 : decode cX8_draw 5 = .ok (.ldc 222, 2) := by decide +kernel
theorem dX8_draw_7 : decode cX8_draw 7 = .ok (.imul, 1) := by decide +kernel
theorem dX8_draw_8 : decode cX8_draw 8 = .ok (.ldc 223, 2) := by decide +kernel
theorem dX8_draw_10 : decode cX8_draw 10 = .ok (.iadd, 1) := by decide +kernel
theorem dX8_draw_11 : decode cX8_draw 11 = .ok (.putfield 219, 3) := by decide +kernel
theorem dX8_draw_14 : decode cX8_draw 14 = .ok (.aload_n 0, 1) := by decide +kernel
theorem dX8_draw_15 : decode cX8_draw 15 = .ok (.getfield 219, 3) := by decide +kernel
theorem dX8_draw_18 : decode cX8_draw 18 = .ok (.ldc 190, 2) := by decide +kernel
theorem dX8_draw_20 : decode cX8_draw 20 = .ok (.iand, 1) := by decide +kernel
theorem dX8_draw_21 : decode cX8_draw 21 = .ok (.sipush 256, 3) := by decide +kernel
theorem dX8_draw_24 : decode cX8_draw 24 = .ok (.idiv, 1) := by decide +kernel
theorem dX8_draw_25 : decode cX8_draw 25 = .ok (.iload_n 1, 1) := by decide +kernel
theorem dX8_draw_26 : decode cX8_draw 26 = .ok (.irem, 1) := by decide +kernel
theorem dX8_draw_27 : decode cX8_draw 27 = .ok (.ireturn, 1) := by decide +kernel
theorem dX8_nth_0 : decode cX8_nth 0 = .ok (.iload_n 1, 1) := by decide +kernel
theorem dX8_nth_1 : decode cX8_nth 1 = .ok (.istore_n 2, 1) := by decide +kernel
theorem dX8_nth_2 : decode cX8_nth 2 = .ok (.iconst 0, 1) := by decide +kernel
theorem dX8_nth_3 : decode cX8_nth 3 = .ok (.istore_n 3, 1) := by decide +kernel
theorem dX8_nth_4 : decode cX8_nth 4 = .ok (.aload_n 0, 1) := by decide +kernel
theorem dX8_nth_5 : decode cX8_nth 5 = .ok (.iload_n 3, 1) := by decide +kernel
theorem dX8_nth_6 : decode cX8_nth 6 = .ok (.invokevirtual 59, 3) := by decide +kernel
theorem dX8_nth_9 : decode cX8_nth 9 = .ok (.ifCond .eq 7, 3) := by decide +kernel
theorem dX8_nth_12 : decode cX8_nth 12 = .ok (.iload_n 2, 1) := by decide +kernel
theorem dX8_nth_13 : decode cX8_nth 13 = .ok (.ifCond .le 25, 3) := by decide +kernel
theorem dX8_nth_16 : decode cX8_nth 16 = .ok (.iload_n 2, 1) := by decide +kernel
theorem dX8_nth_17 : decode cX8_nth 17 = .ok (.aload_n 0, 1) := by decide +kernel
theorem dX8_nth_18 : decode cX8_nth 18 = .ok (.iload_n 3, 1) := by decide +kernel
theorem dX8_nth_19 : decode cX8_nth 19 = .ok (.invokevirtual 59, 3) := by decide +kernel
theorem dX8_nth_22 : decode cX8_nth 22 = .ok (.ifCond .eq 7, 3) := by decide +kernel
theorem dX8_nth_25 : decode cX8_nth 25 = .ok (.iconst 1, 1) := by decide +kernel
theorem dX8_nth_26 : decode cX8_nth 26 = .ok (.goto 4, 3) := by decide +kernel
theorem dX8_nth_29 : decode cX8_nth 29 = .ok (.iconst 0, 1) := by decide +kernel
theorem dX8_nth_30 : decode cX8_nth 30 = .ok (.isub, 1) := by decide +kernel
theorem dX8_nth_31 : decode cX8_nth 31 = .ok (.istore_n 2, 1) := by decide +kernel
theorem dX8_nth_32 : decode cX8_nth 32 = .ok (.iinc 3 1, 3) := by decide +kernel
theorem dX8_nth_35 : decode cX8_nth 35 = .ok (.goto (-31), 3) := by decide +kernel
theorem dX8_nth_38 : decode cX8_nth 38 = .ok (.iload_n 3, 1) := by decide +kernel
theorem dX8_nth_39 : decode cX8_nth 39 = .ok (.ireturn, 1) := by decide +kernel
theorem dX8_lots_0 : decode cX8_lots 0 = .ok (.iload_n 1, 1) := by decide +kernel
theorem dX8_lots_1 : decode cX8_lots 1 = .ok (.iconst 1, 1) := by decide +kernel
theorem dX8_lots_2 : decode cX8_lots 2 = .ok (.if_icmp .ge 10, 3) := by decide +kernel
theorem dX8_lots_5 : decode cX8_lots 5 = .ok (.aload_n 0, 1) := by decide +kernel

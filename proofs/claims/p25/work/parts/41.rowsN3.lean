theorem dL_law_480 : decode cL_law 480 = .ok (.iaload, 1) := by decide +kernel
theorem dL_law_481 : decode cL_law 481 = .ok (.iload 13, 2) := by decide +kernel
theorem dL_law_483 : decode cL_law 483 = .ok (.iadd, 1) := by decide +kernel
theorem dL_law_484 : decode cL_law 484 = .ok (.sipush 1700, 3) := by decide +kernel
theorem dL_law_487 : decode cL_law 487 = .ok (.if_icmp .le 7, 3) := by decide +kernel
theorem dL_law_490 : decode cL_law 490 = .ok (.iconst 0, 1) := by decide +kernel
theorem dL_law_491 : decode cL_law 491 = .ok (.goto 5, 3) := by decide +kernel
theorem dL_law_494 : decode cL_law 494 = .ok (.iload 13, 2) := by decide +kernel
theorem dL_law_496 : decode cL_law 496 = .ok (.istore 13, 2) := by decide +kernel
theorem dL_law_498 : decode cL_law 498 = .ok (.aload_n 2, 1) := by decide +kernel
theorem dL_law_499 : decode cL_law 499 = .ok (.iconst 0, 1) := by decide +kernel
theorem dL_law_500 : decode cL_law 500 = .ok (.dup2, 1) := by decide +kernel
theorem dL_law_501 : decode cL_law 501 = .ok (.iaload, 1) := by decide +kernel
theorem dL_law_502 : decode cL_law 502 = .ok (.iload 13, 2) := by decide +kernel
theorem dL_law_504 : decode cL_law 504 = .ok (.iadd, 1) := by decide +kernel
theorem dL_law_505 : decode cL_law 505 = .ok (.iastore, 1) := by decide +kernel
theorem dL_law_506 : decode cL_law 506 = .ok (.iload 13, 2) := by decide +kernel
theorem dL_law_508 : decode cL_law 508 = .ok (.ifCond .le 17, 3) := by decide +kernel
theorem dL_law_511 : decode cL_law 511 = .ok (.aload_n 1, 1) := by decide +kernel
theorem dL_law_512 : decode cL_law 512 = .ok (.iload 13, 2) := by decide +kernel
theorem dL_law_514 : decode cL_law 514 = .ok (.invokevirtual 125, 3) := by decide +kernel
theorem dL_law_517 : decode cL_law 517 = .ok (.aload_n 2, 1) := by decide +kernel
theorem dL_law_518 : decode cL_law 518 = .ok (.iconst 0, 1) := by decide +kernel
theorem dL_law_519 : decode cL_law 519 = .ok (.iaload, 1) := by decide +kernel
theorem dL_law_520 : decode cL_law 520 = .ok (.if_icmp .eq 5, 3) := by decide +kernel
theorem dL_law_523 : decode cL_law 523 = .ok (.iconst 0, 1) := by decide +kernel
theorem dL_law_524 : decode cL_law 524 = .ok (.ireturn, 1) := by decide +kernel
theorem dL_law_525 : decode cL_law 525 = .ok (.iload 10, 2) := by decide +kernel
theorem dL_law_527 : decode cL_law 527 = .ok (.iconst 5, 1) := by decide +kernel
theorem dL_law_528 : decode cL_law 528 = .ok (.ishr, 1) := by decide +kernel
theorem dL_law_529 : decode cL_law 529 = .ok (.aload_n 2, 1) := by decide +kernel
theorem dL_law_530 : decode cL_law 530 = .ok (.iconst 1, 1) := by decide +kernel
theorem dL_law_531 : decode cL_law 531 = .ok (.iaload, 1) := by decide +kernel
theorem dL_law_532 : decode cL_law 532 = .ok (.invokestatic 102, 3) := by decide +kernel
theorem dL_law_535 : decode cL_law 535 = .ok (.istore 12, 2) := by decide +kernel
theorem dL_law_537 : decode cL_law 537 = .ok (.iload 10, 2) := by decide +kernel
theorem dL_law_539 : decode cL_law 539 = .ok (.bipush 8, 2) := by decide +kernel
theorem dL_law_541 : decode cL_law 541 = .ok (.ishr, 1) := by decide +kernel
theorem dL_law_542 : decode cL_law 542 = .ok (.iconst 3, 1) := by decide +kernel
theorem dL_law_543 : decode cL_law 543 = .ok (.invokestatic 102, 3) := by decide +kernel
theorem dL_law_546 : decode cL_law 546 = .ok (.ifCond .ne 9, 3) := by decide +kernel
theorem dL_law_549 : decode cL_law 549 = .ok (.aload_n 2, 1) := by decide +kernel
theorem dL_law_550 : decode cL_law 550 = .ok (.iconst 0, 1) := by decide +kernel
theorem dL_law_551 : decode cL_law 551 = .ok (.iaload, 1) := by decide +kernel
theorem dL_law_552 : decode cL_law 552 = .ok (.goto 14, 3) := by decide +kernel
theorem dL_law_555 : decode cL_law 555 = .ok (.iload 10, 2) := by decide +kernel
theorem dL_law_557 : decode cL_law 557 = .ok (.bipush 8, 2) := by decide +kernel
theorem dL_law_559 : decode cL_law 559 = .ok (.ishr, 1) := by decide +kernel
theorem dL_law_560 : decode cL_law 560 = .ok (.sipush 1890, 3) := by decide +kernel
theorem dL_law_563 : decode cL_law 563 = .ok (.invokestatic 102, 3) := by decide +kernel
theorem dL_law_566 : decode cL_law 566 = .ok (.istore 13, 2) := by decide +kernel
theorem dL_law_568 : decode cL_law 568 = .ok (.aload_n 1, 1) := by decide +kernel
theorem dL_law_569 : decode cL_law 569 = .ok (.invokevirtual 128, 3) := by decide +kernel
theorem dL_law_572 : decode cL_law 572 = .ok (.aload_n 2, 1) := by decide +kernel
theorem dL_law_573 : decode cL_law 573 = .ok (.iconst 0, 1) := by decide +kernel
theorem dL_law_574 : decode cL_law 574 = .ok (.iaload, 1) := by decide +kernel
theorem dL_law_575 : decode cL_law 575 = .ok (.if_icmp .ne 91, 3) := by decide +kernel
theorem dL_law_578 : decode cL_law 578 = .ok (.aload_n 1, 1) := by decide +kernel
theorem dL_law_579 : decode cL_law 579 = .ok (.invokevirtual 132, 3) := by decide +kernel
theorem dL_law_582 : decode cL_law 582 = .ok (.aload_n 2, 1) := by decide +kernel
theorem dL_law_583 : decode cL_law 583 = .ok (.iconst 1, 1) := by decide +kernel
theorem dL_law_584 : decode cL_law 584 = .ok (.iaload, 1) := by decide +kernel
theorem dL_law_585 : decode cL_law 585 = .ok (.if_icmp .ne 81, 3) := by decide +kernel
theorem dL_law_588 : decode cL_law 588 = .ok (.aload_n 1, 1) := by decide +kernel
theorem dL_law_589 : decode cL_law 589 = .ok (.iload 12, 2) := by decide +kernel
theorem dL_law_591 : decode cL_law 591 = .ok (.iload 13, 2) := by decide +kernel
theorem dL_law_593 : decode cL_law 593 = .ok (.aload_n 3, 1) := by decide +kernel
theorem dL_law_594 : decode cL_law 594 = .ok (.aload 4, 2) := by decide +kernel
theorem dL_law_596 : decode cL_law 596 = .ok (.aload 5, 2) := by decide +kernel
theorem dL_law_598 : decode cL_law 598 = .ok (.aload 6, 2) := by decide +kernel
theorem dL_law_600 : decode cL_law 600 = .ok (.aload 7, 2) := by decide +kernel
theorem dL_law_602 : decode cL_law 602 = .ok (.aload 8, 2) := by decide +kernel
theorem dL_law_604 : decode cL_law 604 = .ok (.aload_n 2, 1) := by decide +kernel
theorem dL_law_605 : decode cL_law 605 = .ok (.invokestatic 135, 3) := by decide +kernel
theorem dL_law_608 : decode cL_law 608 = .ok (.ifCond .eq 58, 3) := by decide +kernel
theorem dL_law_611 : decode cL_law 611 = .ok (.iload 9, 2) := by decide +kernel
theorem dL_law_613 : decode cL_law 613 = .ok (.iconst 4, 1) := by decide +kernel
theorem dL_law_614 : decode cL_law 614 = .ok (.irem, 1) := by decide +kernel
theorem dL_law_615 : decode cL_law 615 = .ok (.ifCond .ne 53, 3) := by decide +kernel
theorem dL_law_618 : decode cL_law 618 = .ok (.aload_n 1, 1) := by decide +kernel
theorem dL_law_619 : decode cL_law 619 = .ok (.iload 12, 2) := by decide +kernel
theorem dL_law_621 : decode cL_law 621 = .ok (.iload 13, 2) := by decide +kernel
theorem dL_law_623 : decode cL_law 623 = .ok (.iload 13, 2) := by decide +kernel
theorem dL_law_625 : decode cL_law 625 = .ok (.bipush 30, 2) := by decide +kernel
theorem dL_law_627 : decode cL_law 627 = .ok (.irem, 1) := by decide +kernel
theorem dL_law_628 : decode cL_law 628 = .ok (.iadd, 1) := by decide +kernel
theorem dL_law_629 : decode cL_law 629 = .ok (.sipush 1890, 3) := by decide +kernel
theorem dL_law_632 : decode cL_law 632 = .ok (.if_icmp .ge 14, 3) := by decide +kernel
theorem dL_law_635 : decode cL_law 635 = .ok (.iload 13, 2) := by decide +kernel
theorem dL_law_637 : decode cL_law 637 = .ok (.iload 13, 2) := by decide +kernel
theorem dL_law_639 : decode cL_law 639 = .ok (.bipush 30, 2) := by decide +kernel
theorem dL_law_641 : decode cL_law 641 = .ok (.irem, 1) := by decide +kernel
theorem dL_law_642 : decode cL_law 642 = .ok (.iadd, 1) := by decide +kernel
theorem dL_law_643 : decode cL_law 643 = .ok (.goto 5, 3) := by decide +kernel
theorem dL_law_646 : decode cL_law 646 = .ok (.iload 13, 2) := by decide +kernel
theorem dL_law_648 : decode cL_law 648 = .ok (.aload_n 3, 1) := by decide +kernel
theorem dL_law_649 : decode cL_law 649 = .ok (.aload 4, 2) := by decide +kernel
theorem dL_law_651 : decode cL_law 651 = .ok (.aload 5, 2) := by decide +kernel
theorem dL_law_653 : decode cL_law 653 = .ok (.aload 6, 2) := by decide +kernel
theorem dL_law_655 : decode cL_law 655 = .ok (.aload 7, 2) := by decide +kernel
theorem dL_law_657 : decode cL_law 657 = .ok (.aload 8, 2) := by decide +kernel
theorem dL_law_659 : decode cL_law 659 = .ok (.aload_n 2, 1) := by decide +kernel
theorem dL_law_660 : decode cL_law 660 = .ok (.invokestatic 135, 3) := by decide +kernel
theorem dL_law_663 : decode cL_law 663 = .ok (.ifCond .ne 5, 3) := by decide +kernel
theorem dL_law_666 : decode cL_law 666 = .ok (.iconst 0, 1) := by decide +kernel
theorem dL_law_667 : decode cL_law 667 = .ok (.ireturn, 1) := by decide +kernel
theorem dL_law_668 : decode cL_law 668 = .ok (.iconst 0, 1) := by decide +kernel
theorem dL_law_669 : decode cL_law 669 = .ok (.istore 14, 2) := by decide +kernel
theorem dL_law_671 : decode cL_law 671 = .ok (.iload 13, 2) := by decide +kernel
theorem dL_law_673 : decode cL_law 673 = .ok (.iload 10, 2) := by decide +kernel
theorem dL_law_675 : decode cL_law 675 = .ok (.bipush 13, 2) := by decide +kernel
theorem dL_law_677 : decode cL_law 677 = .ok (.ishr, 1) := by decide +kernel
theorem dL_law_678 : decode cL_law 678 = .ok (.bipush 40, 2) := by decide +kernel
theorem dL_law_680 : decode cL_law 680 = .ok (.invokestatic 102, 3) := by decide +kernel
theorem dL_law_683 : decode cL_law 683 = .ok (.iadd, 1) := by decide +kernel
theorem dL_law_684 : decode cL_law 684 = .ok (.istore 15, 2) := by decide +kernel
theorem dL_law_686 : decode cL_law 686 = .ok (.iload 13, 2) := by decide +kernel
theorem dL_law_688 : decode cL_law 688 = .ok (.istore 16, 2) := by decide +kernel
theorem dL_law_690 : decode cL_law 690 = .ok (.iload 16, 2) := by decide +kernel
theorem dL_law_692 : decode cL_law 692 = .ok (.iload 15, 2) := by decide +kernel
theorem dL_law_694 : decode cL_law 694 = .ok (.if_icmp .gt 28, 3) := by decide +kernel
theorem dL_law_697 : decode cL_law 697 = .ok (.iload 14, 2) := by decide +kernel
theorem dL_law_699 : decode cL_law 699 = .ok (.iload 16, 2) := by decide +kernel
theorem dL_law_701 : decode cL_law 701 = .ok (.bipush 7, 2) := by decide +kernel
theorem dL_law_703 : decode cL_law 703 = .ok (.irem, 1) := by decide +kernel
theorem dL_law_704 : decode cL_law 704 = .ok (.iconst 5, 1) := by decide +kernel
theorem dL_law_705 : decode cL_law 705 = .ok (.if_icmp .ge 7, 3) := by decide +kernel
theorem dL_law_708 : decode cL_law 708 = .ok (.iconst 1, 1) := by decide +kernel
theorem dL_law_709 : decode cL_law 709 = .ok (.goto 4, 3) := by decide +kernel
theorem dL_law_712 : decode cL_law 712 = .ok (.iconst 0, 1) := by decide +kernel
theorem dL_law_713 : decode cL_law 713 = .ok (.iadd, 1) := by decide +kernel
theorem dL_law_714 : decode cL_law 714 = .ok (.istore 14, 2) := by decide +kernel
theorem dL_law_716 : decode cL_law 716 = .ok (.iinc 16 1, 3) := by decide +kernel
theorem dL_law_719 : decode cL_law 719 = .ok (.goto (-29), 3) := by decide +kernel
theorem dL_law_722 : decode cL_law 722 = .ok (.aload_n 1, 1) := by decide +kernel
theorem dL_law_723 : decode cL_law 723 = .ok (.iload 13, 2) := by decide +kernel
theorem dL_law_725 : decode cL_law 725 = .ok (.iload 15, 2) := by decide +kernel
theorem dL_law_727 : decode cL_law 727 = .ok (.invokevirtual 139, 3) := by decide +kernel
theorem dL_law_730 : decode cL_law 730 = .ok (.iload 14, 2) := by decide +kernel
theorem dL_law_732 : decode cL_law 732 = .ok (.if_icmp .eq 5, 3) := by decide +kernel
theorem dL_law_735 : decode cL_law 735 = .ok (.iconst 0, 1) := by decide +kernel
theorem dL_law_736 : decode cL_law 736 = .ok (.ireturn, 1) := by decide +kernel
theorem dL_law_737 : decode cL_law 737 = .ok (.iinc 9 1, 3) := by decide +kernel
theorem dL_law_740 : decode cL_law 740 = .ok (.goto (-690), 3) := by decide +kernel
theorem dL_law_743 : decode cL_law 743 = .ok (.iconst 1, 1) := by decide +kernel
theorem dL_law_744 : decode cL_law 744 = .ok (.ireturn, 1) := by decide +kernel

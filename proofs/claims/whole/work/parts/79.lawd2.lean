theorem d_LA_law_471 : decode code 471 = .ok (.aload_n 0, 1) := by decide +kernel
theorem d_LA_law_472 : decode code 472 = .ok (.iload_n 3, 1) := by decide +kernel
theorem d_LA_law_473 : decode code 473 = .ok (.bipush 6, 2) := by decide +kernel
theorem d_LA_law_475 : decode code 475 = .ok (.iadd, 1) := by decide +kernel
theorem d_LA_law_476 : decode code 476 = .ok (.iaload, 1) := by decide +kernel
theorem d_LA_law_477 : decode code 477 = .ok (.invokevirtual 40, 3) := by decide +kernel
theorem d_LA_law_480 : decode code 480 = .ok (.aload_n 2, 1) := by decide +kernel
theorem d_LA_law_481 : decode code 481 = .ok (.aload_n 0, 1) := by decide +kernel
theorem d_LA_law_482 : decode code 482 = .ok (.iload_n 3, 1) := by decide +kernel
theorem d_LA_law_483 : decode code 483 = .ok (.iconst 1, 1) := by decide +kernel
theorem d_LA_law_484 : decode code 484 = .ok (.iadd, 1) := by decide +kernel
theorem d_LA_law_485 : decode code 485 = .ok (.iaload, 1) := by decide +kernel
theorem d_LA_law_486 : decode code 486 = .ok (.aload_n 0, 1) := by decide +kernel
theorem d_LA_law_487 : decode code 487 = .ok (.iload_n 3, 1) := by decide +kernel
theorem d_LA_law_488 : decode code 488 = .ok (.iconst 2, 1) := by decide +kernel
theorem d_LA_law_489 : decode code 489 = .ok (.iadd, 1) := by decide +kernel
theorem d_LA_law_490 : decode code 490 = .ok (.iaload, 1) := by decide +kernel
theorem d_LA_law_491 : decode code 491 = .ok (.i2l, 1) := by decide +kernel
theorem d_LA_law_492 : decode code 492 = .ok (.bipush 32, 2) := by decide +kernel
theorem d_LA_law_494 : decode code 494 = .ok (.lshl, 1) := by decide +kernel
theorem d_LA_law_495 : decode code 495 = .ok (.aload_n 0, 1) := by decide +kernel
theorem d_LA_law_496 : decode code 496 = .ok (.iload_n 3, 1) := by decide +kernel
theorem d_LA_law_497 : decode code 497 = .ok (.iconst 3, 1) := by decide +kernel
theorem d_LA_law_498 : decode code 498 = .ok (.iadd, 1) := by decide +kernel
theorem d_LA_law_499 : decode code 499 = .ok (.iaload, 1) := by decide +kernel
theorem d_LA_law_500 : decode code 500 = .ok (.i2l, 1) := by decide +kernel
theorem d_LA_law_501 : decode code 501 = .ok (.ldc2_w 23, 3) := by decide +kernel
theorem d_LA_law_504 : decode code 504 = .ok (.land, 1) := by decide +kernel
theorem d_LA_law_505 : decode code 505 = .ok (.lor, 1) := by decide +kernel
theorem d_LA_law_506 : decode code 506 = .ok (.aload_n 0, 1) := by decide +kernel
theorem d_LA_law_507 : decode code 507 = .ok (.iload_n 3, 1) := by decide +kernel
theorem d_LA_law_508 : decode code 508 = .ok (.iconst 4, 1) := by decide +kernel
theorem d_LA_law_509 : decode code 509 = .ok (.iadd, 1) := by decide +kernel
theorem d_LA_law_510 : decode code 510 = .ok (.iaload, 1) := by decide +kernel
theorem d_LA_law_511 : decode code 511 = .ok (.i2l, 1) := by decide +kernel
theorem d_LA_law_512 : decode code 512 = .ok (.bipush 32, 2) := by decide +kernel
theorem d_LA_law_514 : decode code 514 = .ok (.lshl, 1) := by decide +kernel
theorem d_LA_law_515 : decode code 515 = .ok (.aload_n 0, 1) := by decide +kernel
theorem d_LA_law_516 : decode code 516 = .ok (.iload_n 3, 1) := by decide +kernel
theorem d_LA_law_517 : decode code 517 = .ok (.iconst 5, 1) := by decide +kernel
theorem d_LA_law_518 : decode code 518 = .ok (.iadd, 1) := by decide +kernel
theorem d_LA_law_519 : decode code 519 = .ok (.iaload, 1) := by decide +kernel
theorem d_LA_law_520 : decode code 520 = .ok (.i2l, 1) := by decide +kernel
theorem d_LA_law_521 : decode code 521 = .ok (.ldc2_w 23, 3) := by decide +kernel
theorem d_LA_law_524 : decode code 524 = .ok (.land, 1) := by decide +kernel
theorem d_LA_law_525 : decode code 525 = .ok (.lor, 1) := by decide +kernel
theorem d_LA_law_526 : decode code 526 = .ok (.aload_n 0, 1) := by decide +kernel
theorem d_LA_law_527 : decode code 527 = .ok (.iload_n 3, 1) := by decide +kernel
theorem d_LA_law_528 : decode code 528 = .ok (.bipush 6, 2) := by decide +kernel
theorem d_LA_law_530 : decode code 530 = .ok (.iadd, 1) := by decide +kernel
theorem d_LA_law_531 : decode code 531 = .ok (.iaload, 1) := by decide +kernel
theorem d_LA_law_532 : decode code 532 = .ok (.invokevirtual 44, 3) := by decide +kernel
theorem d_LA_law_535 : decode code 535 = .ok (.lcmp, 1) := by decide +kernel
theorem d_LA_law_536 : decode code 536 = .ok (.ifCond .eq 323, 3) := by decide +kernel
theorem d_LA_law_539 : decode code 539 = .ok (.iconst 0, 1) := by decide +kernel
theorem d_LA_law_540 : decode code 540 = .ok (.ireturn, 1) := by decide +kernel
theorem d_LA_law_541 : decode code 541 = .ok (.aload_n 1, 1) := by decide +kernel
theorem d_LA_law_542 : decode code 542 = .ok (.aload_n 0, 1) := by decide +kernel
theorem d_LA_law_543 : decode code 543 = .ok (.iload_n 3, 1) := by decide +kernel
theorem d_LA_law_544 : decode code 544 = .ok (.iconst 1, 1) := by decide +kernel
theorem d_LA_law_545 : decode code 545 = .ok (.iadd, 1) := by decide +kernel
theorem d_LA_law_546 : decode code 546 = .ok (.iaload, 1) := by decide +kernel
theorem d_LA_law_547 : decode code 547 = .ok (.invokevirtual 45, 3) := by decide +kernel
theorem d_LA_law_550 : decode code 550 = .ok (.aload_n 2, 1) := by decide +kernel
theorem d_LA_law_551 : decode code 551 = .ok (.aload_n 0, 1) := by decide +kernel
theorem d_LA_law_552 : decode code 552 = .ok (.iload_n 3, 1) := by decide +kernel
theorem d_LA_law_553 : decode code 553 = .ok (.iconst 1, 1) := by decide +kernel
theorem d_LA_law_554 : decode code 554 = .ok (.iadd, 1) := by decide +kernel
theorem d_LA_law_555 : decode code 555 = .ok (.iaload, 1) := by decide +kernel
theorem d_LA_law_556 : decode code 556 = .ok (.invokevirtual 49, 3) := by decide +kernel
theorem d_LA_law_559 : decode code 559 = .ok (.if_icmp .eq 300, 3) := by decide +kernel
theorem d_LA_law_562 : decode code 562 = .ok (.iconst 0, 1) := by decide +kernel
theorem d_LA_law_563 : decode code 563 = .ok (.ireturn, 1) := by decide +kernel
theorem d_LA_law_564 : decode code 564 = .ok (.aload_n 1, 1) := by decide +kernel
theorem d_LA_law_565 : decode code 565 = .ok (.aload_n 0, 1) := by decide +kernel
theorem d_LA_law_566 : decode code 566 = .ok (.iload_n 3, 1) := by decide +kernel
theorem d_LA_law_567 : decode code 567 = .ok (.iconst 1, 1) := by decide +kernel
theorem d_LA_law_568 : decode code 568 = .ok (.iadd, 1) := by decide +kernel
theorem d_LA_law_569 : decode code 569 = .ok (.iaload, 1) := by decide +kernel
theorem d_LA_law_570 : decode code 570 = .ok (.aload_n 0, 1) := by decide +kernel
theorem d_LA_law_571 : decode code 571 = .ok (.iload_n 3, 1) := by decide +kernel
theorem d_LA_law_572 : decode code 572 = .ok (.iconst 2, 1) := by decide +kernel
theorem d_LA_law_573 : decode code 573 = .ok (.iadd, 1) := by decide +kernel
theorem d_LA_law_574 : decode code 574 = .ok (.iaload, 1) := by decide +kernel
theorem d_LA_law_575 : decode code 575 = .ok (.aload_n 0, 1) := by decide +kernel
theorem d_LA_law_576 : decode code 576 = .ok (.iload_n 3, 1) := by decide +kernel
theorem d_LA_law_577 : decode code 577 = .ok (.iconst 3, 1) := by decide +kernel
theorem d_LA_law_578 : decode code 578 = .ok (.iadd, 1) := by decide +kernel
theorem d_LA_law_579 : decode code 579 = .ok (.iaload, 1) := by decide +kernel
theorem d_LA_law_580 : decode code 580 = .ok (.invokevirtual 50, 3) := by decide +kernel
theorem d_LA_law_583 : decode code 583 = .ok (.aload_n 2, 1) := by decide +kernel
theorem d_LA_law_584 : decode code 584 = .ok (.aload_n 0, 1) := by decide +kernel
theorem d_LA_law_585 : decode code 585 = .ok (.iload_n 3, 1) := by decide +kernel
theorem d_LA_law_586 : decode code 586 = .ok (.iconst 1, 1) := by decide +kernel
theorem d_LA_law_587 : decode code 587 = .ok (.iadd, 1) := by decide +kernel
theorem d_LA_law_588 : decode code 588 = .ok (.iaload, 1) := by decide +kernel
theorem d_LA_law_589 : decode code 589 = .ok (.aload_n 0, 1) := by decide +kernel
theorem d_LA_law_590 : decode code 590 = .ok (.iload_n 3, 1) := by decide +kernel
theorem d_LA_law_591 : decode code 591 = .ok (.iconst 2, 1) := by decide +kernel
theorem d_LA_law_592 : decode code 592 = .ok (.iadd, 1) := by decide +kernel
theorem d_LA_law_593 : decode code 593 = .ok (.iaload, 1) := by decide +kernel
theorem d_LA_law_594 : decode code 594 = .ok (.aload_n 0, 1) := by decide +kernel
theorem d_LA_law_595 : decode code 595 = .ok (.iload_n 3, 1) := by decide +kernel
theorem d_LA_law_596 : decode code 596 = .ok (.iconst 3, 1) := by decide +kernel
theorem d_LA_law_597 : decode code 597 = .ok (.iadd, 1) := by decide +kernel
theorem d_LA_law_598 : decode code 598 = .ok (.iaload, 1) := by decide +kernel
theorem d_LA_law_599 : decode code 599 = .ok (.invokevirtual 54, 3) := by decide +kernel
theorem d_LA_law_602 : decode code 602 = .ok (.if_icmp .eq 257, 3) := by decide +kernel
theorem d_LA_law_605 : decode code 605 = .ok (.iconst 0, 1) := by decide +kernel
theorem d_LA_law_606 : decode code 606 = .ok (.ireturn, 1) := by decide +kernel
theorem d_LA_law_607 : decode code 607 = .ok (.aload_n 1, 1) := by decide +kernel
theorem d_LA_law_608 : decode code 608 = .ok (.aload_n 0, 1) := by decide +kernel
theorem d_LA_law_609 : decode code 609 = .ok (.iload_n 3, 1) := by decide +kernel
theorem d_LA_law_610 : decode code 610 = .ok (.iconst 1, 1) := by decide +kernel
theorem d_LA_law_611 : decode code 611 = .ok (.iadd, 1) := by decide +kernel
theorem d_LA_law_612 : decode code 612 = .ok (.iaload, 1) := by decide +kernel
theorem d_LA_law_613 : decode code 613 = .ok (.aload_n 0, 1) := by decide +kernel
theorem d_LA_law_614 : decode code 614 = .ok (.iload_n 3, 1) := by decide +kernel
theorem d_LA_law_615 : decode code 615 = .ok (.iconst 2, 1) := by decide +kernel
theorem d_LA_law_616 : decode code 616 = .ok (.iadd, 1) := by decide +kernel
theorem d_LA_law_617 : decode code 617 = .ok (.iaload, 1) := by decide +kernel
theorem d_LA_law_618 : decode code 618 = .ok (.invokevirtual 55, 3) := by decide +kernel
theorem d_LA_law_621 : decode code 621 = .ok (.aload_n 2, 1) := by decide +kernel
theorem d_LA_law_622 : decode code 622 = .ok (.aload_n 0, 1) := by decide +kernel
theorem d_LA_law_623 : decode code 623 = .ok (.iload_n 3, 1) := by decide +kernel
theorem d_LA_law_624 : decode code 624 = .ok (.iconst 1, 1) := by decide +kernel
theorem d_LA_law_625 : decode code 625 = .ok (.iadd, 1) := by decide +kernel
theorem d_LA_law_626 : decode code 626 = .ok (.iaload, 1) := by decide +kernel
theorem d_LA_law_627 : decode code 627 = .ok (.aload_n 0, 1) := by decide +kernel
theorem d_LA_law_628 : decode code 628 = .ok (.iload_n 3, 1) := by decide +kernel
theorem d_LA_law_629 : decode code 629 = .ok (.iconst 2, 1) := by decide +kernel
theorem d_LA_law_630 : decode code 630 = .ok (.iadd, 1) := by decide +kernel
theorem d_LA_law_631 : decode code 631 = .ok (.iaload, 1) := by decide +kernel
theorem d_LA_law_632 : decode code 632 = .ok (.invokevirtual 59, 3) := by decide +kernel
theorem d_LA_law_635 : decode code 635 = .ok (.lcmp, 1) := by decide +kernel
theorem d_LA_law_636 : decode code 636 = .ok (.ifCond .eq 223, 3) := by decide +kernel
theorem d_LA_law_639 : decode code 639 = .ok (.iconst 0, 1) := by decide +kernel
theorem d_LA_law_640 : decode code 640 = .ok (.ireturn, 1) := by decide +kernel
theorem d_LA_law_641 : decode code 641 = .ok (.aload_n 1, 1) := by decide +kernel
theorem d_LA_law_642 : decode code 642 = .ok (.aload_n 0, 1) := by decide +kernel
theorem d_LA_law_643 : decode code 643 = .ok (.iload_n 3, 1) := by decide +kernel
theorem d_LA_law_644 : decode code 644 = .ok (.iconst 1, 1) := by decide +kernel
theorem d_LA_law_645 : decode code 645 = .ok (.iadd, 1) := by decide +kernel
theorem d_LA_law_646 : decode code 646 = .ok (.iaload, 1) := by decide +kernel
theorem d_LA_law_647 : decode code 647 = .ok (.invokevirtual 60, 3) := by decide +kernel
theorem d_LA_law_650 : decode code 650 = .ok (.aload_n 2, 1) := by decide +kernel
theorem d_LA_law_651 : decode code 651 = .ok (.aload_n 0, 1) := by decide +kernel
theorem d_LA_law_652 : decode code 652 = .ok (.iload_n 3, 1) := by decide +kernel
theorem d_LA_law_653 : decode code 653 = .ok (.iconst 1, 1) := by decide +kernel
theorem d_LA_law_654 : decode code 654 = .ok (.iadd, 1) := by decide +kernel
theorem d_LA_law_655 : decode code 655 = .ok (.iaload, 1) := by decide +kernel
theorem d_LA_law_656 : decode code 656 = .ok (.invokevirtual 63, 3) := by decide +kernel
theorem d_LA_law_659 : decode code 659 = .ok (.if_icmp .eq 200, 3) := by decide +kernel
theorem d_LA_law_662 : decode code 662 = .ok (.iconst 0, 1) := by decide +kernel
theorem d_LA_law_663 : decode code 663 = .ok (.ireturn, 1) := by decide +kernel
theorem d_LA_law_664 : decode code 664 = .ok (.aload_n 1, 1) := by decide +kernel
theorem d_LA_law_665 : decode code 665 = .ok (.aload_n 0, 1) := by decide +kernel
theorem d_LA_law_666 : decode code 666 = .ok (.iload_n 3, 1) := by decide +kernel
theorem d_LA_law_667 : decode code 667 = .ok (.iconst 1, 1) := by decide +kernel
theorem d_LA_law_668 : decode code 668 = .ok (.iadd, 1) := by decide +kernel
theorem d_LA_law_669 : decode code 669 = .ok (.iaload, 1) := by decide +kernel
theorem d_LA_law_670 : decode code 670 = .ok (.aload_n 0, 1) := by decide +kernel
theorem d_LA_law_671 : decode code 671 = .ok (.iload_n 3, 1) := by decide +kernel
theorem d_LA_law_672 : decode code 672 = .ok (.iconst 2, 1) := by decide +kernel
theorem d_LA_law_673 : decode code 673 = .ok (.iadd, 1) := by decide +kernel
theorem d_LA_law_674 : decode code 674 = .ok (.iaload, 1) := by decide +kernel
theorem d_LA_law_675 : decode code 675 = .ok (.invokevirtual 64, 3) := by decide +kernel
theorem d_LA_law_678 : decode code 678 = .ok (.aload_n 2, 1) := by decide +kernel
theorem d_LA_law_679 : decode code 679 = .ok (.aload_n 0, 1) := by decide +kernel
theorem d_LA_law_680 : decode code 680 = .ok (.iload_n 3, 1) := by decide +kernel
theorem d_LA_law_681 : decode code 681 = .ok (.iconst 1, 1) := by decide +kernel
theorem d_LA_law_682 : decode code 682 = .ok (.iadd, 1) := by decide +kernel
theorem d_LA_law_683 : decode code 683 = .ok (.iaload, 1) := by decide +kernel
theorem d_LA_law_684 : decode code 684 = .ok (.aload_n 0, 1) := by decide +kernel
theorem d_LA_law_685 : decode code 685 = .ok (.iload_n 3, 1) := by decide +kernel
theorem d_LA_law_686 : decode code 686 = .ok (.iconst 2, 1) := by decide +kernel
theorem d_LA_law_687 : decode code 687 = .ok (.iadd, 1) := by decide +kernel
theorem d_LA_law_688 : decode code 688 = .ok (.iaload, 1) := by decide +kernel
theorem d_LA_law_689 : decode code 689 = .ok (.invokevirtual 67, 3) := by decide +kernel
theorem d_LA_law_692 : decode code 692 = .ok (.lcmp, 1) := by decide +kernel
theorem d_LA_law_693 : decode code 693 = .ok (.ifCond .eq 166, 3) := by decide +kernel
theorem d_LA_law_696 : decode code 696 = .ok (.iconst 0, 1) := by decide +kernel
theorem d_LA_law_697 : decode code 697 = .ok (.ireturn, 1) := by decide +kernel
theorem d_LA_law_698 : decode code 698 = .ok (.aload_n 1, 1) := by decide +kernel
theorem d_LA_law_699 : decode code 699 = .ok (.aload_n 0, 1) := by decide +kernel
theorem d_LA_law_700 : decode code 700 = .ok (.iload_n 3, 1) := by decide +kernel
theorem d_LA_law_701 : decode code 701 = .ok (.iconst 1, 1) := by decide +kernel
theorem d_LA_law_702 : decode code 702 = .ok (.iadd, 1) := by decide +kernel
theorem d_LA_law_703 : decode code 703 = .ok (.iaload, 1) := by decide +kernel
theorem d_LA_law_704 : decode code 704 = .ok (.aload_n 0, 1) := by decide +kernel
theorem d_LA_law_705 : decode code 705 = .ok (.iload_n 3, 1) := by decide +kernel
theorem d_LA_law_706 : decode code 706 = .ok (.iconst 2, 1) := by decide +kernel
theorem d_LA_law_707 : decode code 707 = .ok (.iadd, 1) := by decide +kernel
theorem d_LA_law_708 : decode code 708 = .ok (.iaload, 1) := by decide +kernel
theorem d_LA_law_709 : decode code 709 = .ok (.i2l, 1) := by decide +kernel
theorem d_LA_law_710 : decode code 710 = .ok (.bipush 32, 2) := by decide +kernel
theorem d_LA_law_712 : decode code 712 = .ok (.lshl, 1) := by decide +kernel
theorem d_LA_law_713 : decode code 713 = .ok (.aload_n 0, 1) := by decide +kernel
theorem d_LA_law_714 : decode code 714 = .ok (.iload_n 3, 1) := by decide +kernel
theorem d_LA_law_715 : decode code 715 = .ok (.iconst 3, 1) := by decide +kernel
theorem d_LA_law_716 : decode code 716 = .ok (.iadd, 1) := by decide +kernel
theorem d_LA_law_717 : decode code 717 = .ok (.iaload, 1) := by decide +kernel
theorem d_LA_law_718 : decode code 718 = .ok (.i2l, 1) := by decide +kernel
theorem d_LA_law_719 : decode code 719 = .ok (.ldc2_w 23, 3) := by decide +kernel
theorem d_LA_law_722 : decode code 722 = .ok (.land, 1) := by decide +kernel
theorem d_LA_law_723 : decode code 723 = .ok (.lor, 1) := by decide +kernel
theorem d_LA_law_724 : decode code 724 = .ok (.invokevirtual 68, 3) := by decide +kernel
theorem d_LA_law_727 : decode code 727 = .ok (.aload_n 2, 1) := by decide +kernel
theorem d_LA_law_728 : decode code 728 = .ok (.aload_n 0, 1) := by decide +kernel
theorem d_LA_law_729 : decode code 729 = .ok (.iload_n 3, 1) := by decide +kernel
theorem d_LA_law_730 : decode code 730 = .ok (.iconst 1, 1) := by decide +kernel
theorem d_LA_law_731 : decode code 731 = .ok (.iadd, 1) := by decide +kernel
theorem d_LA_law_732 : decode code 732 = .ok (.iaload, 1) := by decide +kernel
theorem d_LA_law_733 : decode code 733 = .ok (.aload_n 0, 1) := by decide +kernel
theorem d_LA_law_734 : decode code 734 = .ok (.iload_n 3, 1) := by decide +kernel
theorem d_LA_law_735 : decode code 735 = .ok (.iconst 2, 1) := by decide +kernel
theorem d_LA_law_736 : decode code 736 = .ok (.iadd, 1) := by decide +kernel
theorem d_LA_law_737 : decode code 737 = .ok (.iaload, 1) := by decide +kernel
theorem d_LA_law_738 : decode code 738 = .ok (.i2l, 1) := by decide +kernel
theorem d_LA_law_739 : decode code 739 = .ok (.bipush 32, 2) := by decide +kernel
theorem d_LA_law_741 : decode code 741 = .ok (.lshl, 1) := by decide +kernel
theorem d_LA_law_742 : decode code 742 = .ok (.aload_n 0, 1) := by decide +kernel
theorem d_LA_law_743 : decode code 743 = .ok (.iload_n 3, 1) := by decide +kernel
theorem d_LA_law_744 : decode code 744 = .ok (.iconst 3, 1) := by decide +kernel
theorem d_LA_law_745 : decode code 745 = .ok (.iadd, 1) := by decide +kernel
theorem d_LA_law_746 : decode code 746 = .ok (.iaload, 1) := by decide +kernel
theorem d_LA_law_747 : decode code 747 = .ok (.i2l, 1) := by decide +kernel
theorem d_LA_law_748 : decode code 748 = .ok (.ldc2_w 23, 3) := by decide +kernel
theorem d_LA_law_751 : decode code 751 = .ok (.land, 1) := by decide +kernel
theorem d_LA_law_752 : decode code 752 = .ok (.lor, 1) := by decide +kernel
theorem d_LA_law_753 : decode code 753 = .ok (.invokevirtual 72, 3) := by decide +kernel
theorem d_LA_law_756 : decode code 756 = .ok (.lcmp, 1) := by decide +kernel
theorem d_LA_law_757 : decode code 757 = .ok (.ifCond .eq 102, 3) := by decide +kernel
theorem d_LA_law_760 : decode code 760 = .ok (.iconst 0, 1) := by decide +kernel
theorem d_LA_law_761 : decode code 761 = .ok (.ireturn, 1) := by decide +kernel
theorem d_LA_law_762 : decode code 762 = .ok (.aload_n 1, 1) := by decide +kernel
theorem d_LA_law_763 : decode code 763 = .ok (.aload_n 0, 1) := by decide +kernel
theorem d_LA_law_764 : decode code 764 = .ok (.iload_n 3, 1) := by decide +kernel
theorem d_LA_law_765 : decode code 765 = .ok (.iconst 1, 1) := by decide +kernel
theorem d_LA_law_766 : decode code 766 = .ok (.iadd, 1) := by decide +kernel
theorem d_LA_law_767 : decode code 767 = .ok (.iaload, 1) := by decide +kernel
theorem d_LA_law_768 : decode code 768 = .ok (.invokevirtual 73, 3) := by decide +kernel
theorem d_LA_law_771 : decode code 771 = .ok (.aload_n 2, 1) := by decide +kernel
theorem d_LA_law_772 : decode code 772 = .ok (.aload_n 0, 1) := by decide +kernel
theorem d_LA_law_773 : decode code 773 = .ok (.iload_n 3, 1) := by decide +kernel
theorem d_LA_law_774 : decode code 774 = .ok (.iconst 1, 1) := by decide +kernel
theorem d_LA_law_775 : decode code 775 = .ok (.iadd, 1) := by decide +kernel
theorem d_LA_law_776 : decode code 776 = .ok (.iaload, 1) := by decide +kernel
theorem d_LA_law_777 : decode code 777 = .ok (.invokevirtual 76, 3) := by decide +kernel
theorem d_LA_law_780 : decode code 780 = .ok (.if_icmp .eq 79, 3) := by decide +kernel
theorem d_LA_law_783 : decode code 783 = .ok (.iconst 0, 1) := by decide +kernel
theorem d_LA_law_784 : decode code 784 = .ok (.ireturn, 1) := by decide +kernel
theorem d_LA_law_785 : decode code 785 = .ok (.aload_n 1, 1) := by decide +kernel
theorem d_LA_law_786 : decode code 786 = .ok (.aload_n 0, 1) := by decide +kernel
theorem d_LA_law_787 : decode code 787 = .ok (.iload_n 3, 1) := by decide +kernel
theorem d_LA_law_788 : decode code 788 = .ok (.iconst 1, 1) := by decide +kernel
theorem d_LA_law_789 : decode code 789 = .ok (.iadd, 1) := by decide +kernel
theorem d_LA_law_790 : decode code 790 = .ok (.iaload, 1) := by decide +kernel
theorem d_LA_law_791 : decode code 791 = .ok (.aload_n 0, 1) := by decide +kernel
theorem d_LA_law_792 : decode code 792 = .ok (.iload_n 3, 1) := by decide +kernel
theorem d_LA_law_793 : decode code 793 = .ok (.iconst 2, 1) := by decide +kernel
theorem d_LA_law_794 : decode code 794 = .ok (.iadd, 1) := by decide +kernel
theorem d_LA_law_795 : decode code 795 = .ok (.iaload, 1) := by decide +kernel
theorem d_LA_law_796 : decode code 796 = .ok (.i2l, 1) := by decide +kernel
theorem d_LA_law_797 : decode code 797 = .ok (.bipush 32, 2) := by decide +kernel
theorem d_LA_law_799 : decode code 799 = .ok (.lshl, 1) := by decide +kernel
theorem d_LA_law_800 : decode code 800 = .ok (.aload_n 0, 1) := by decide +kernel
theorem d_LA_law_801 : decode code 801 = .ok (.iload_n 3, 1) := by decide +kernel
theorem d_LA_law_802 : decode code 802 = .ok (.iconst 3, 1) := by decide +kernel
theorem d_LA_law_803 : decode code 803 = .ok (.iadd, 1) := by decide +kernel
theorem d_LA_law_804 : decode code 804 = .ok (.iaload, 1) := by decide +kernel
theorem d_LA_law_805 : decode code 805 = .ok (.i2l, 1) := by decide +kernel
theorem d_LA_law_806 : decode code 806 = .ok (.ldc2_w 23, 3) := by decide +kernel
theorem d_LA_law_809 : decode code 809 = .ok (.land, 1) := by decide +kernel
theorem d_LA_law_810 : decode code 810 = .ok (.lor, 1) := by decide +kernel
theorem d_LA_law_811 : decode code 811 = .ok (.aload_n 0, 1) := by decide +kernel
theorem d_LA_law_812 : decode code 812 = .ok (.iload_n 3, 1) := by decide +kernel
theorem d_LA_law_813 : decode code 813 = .ok (.iconst 4, 1) := by decide +kernel
theorem d_LA_law_814 : decode code 814 = .ok (.iadd, 1) := by decide +kernel
theorem d_LA_law_815 : decode code 815 = .ok (.iaload, 1) := by decide +kernel
theorem d_LA_law_816 : decode code 816 = .ok (.invokevirtual 77, 3) := by decide +kernel
theorem d_LA_law_819 : decode code 819 = .ok (.aload_n 2, 1) := by decide +kernel
theorem d_LA_law_820 : decode code 820 = .ok (.aload_n 0, 1) := by decide +kernel
theorem d_LA_law_821 : decode code 821 = .ok (.iload_n 3, 1) := by decide +kernel
theorem d_LA_law_822 : decode code 822 = .ok (.iconst 1, 1) := by decide +kernel
theorem d_LA_law_823 : decode code 823 = .ok (.iadd, 1) := by decide +kernel
theorem d_LA_law_824 : decode code 824 = .ok (.iaload, 1) := by decide +kernel
theorem d_LA_law_825 : decode code 825 = .ok (.aload_n 0, 1) := by decide +kernel
theorem d_LA_law_826 : decode code 826 = .ok (.iload_n 3, 1) := by decide +kernel
theorem d_LA_law_827 : decode code 827 = .ok (.iconst 2, 1) := by decide +kernel
theorem d_LA_law_828 : decode code 828 = .ok (.iadd, 1) := by decide +kernel
theorem d_LA_law_829 : decode code 829 = .ok (.iaload, 1) := by decide +kernel
theorem d_LA_law_830 : decode code 830 = .ok (.i2l, 1) := by decide +kernel
theorem d_LA_law_831 : decode code 831 = .ok (.bipush 32, 2) := by decide +kernel
theorem d_LA_law_833 : decode code 833 = .ok (.lshl, 1) := by decide +kernel
theorem d_LA_law_834 : decode code 834 = .ok (.aload_n 0, 1) := by decide +kernel
theorem d_LA_law_835 : decode code 835 = .ok (.iload_n 3, 1) := by decide +kernel
theorem d_LA_law_836 : decode code 836 = .ok (.iconst 3, 1) := by decide +kernel
theorem d_LA_law_837 : decode code 837 = .ok (.iadd, 1) := by decide +kernel
theorem d_LA_law_838 : decode code 838 = .ok (.iaload, 1) := by decide +kernel
theorem d_LA_law_839 : decode code 839 = .ok (.i2l, 1) := by decide +kernel
theorem d_LA_law_840 : decode code 840 = .ok (.ldc2_w 23, 3) := by decide +kernel
theorem d_LA_law_843 : decode code 843 = .ok (.land, 1) := by decide +kernel
theorem d_LA_law_844 : decode code 844 = .ok (.lor, 1) := by decide +kernel
theorem d_LA_law_845 : decode code 845 = .ok (.aload_n 0, 1) := by decide +kernel
theorem d_LA_law_846 : decode code 846 = .ok (.iload_n 3, 1) := by decide +kernel
theorem d_LA_law_847 : decode code 847 = .ok (.iconst 4, 1) := by decide +kernel
theorem d_LA_law_848 : decode code 848 = .ok (.iadd, 1) := by decide +kernel
theorem d_LA_law_849 : decode code 849 = .ok (.iaload, 1) := by decide +kernel
theorem d_LA_law_850 : decode code 850 = .ok (.invokevirtual 81, 3) := by decide +kernel
theorem d_LA_law_853 : decode code 853 = .ok (.lcmp, 1) := by decide +kernel
theorem d_LA_law_854 : decode code 854 = .ok (.ifCond .eq 5, 3) := by decide +kernel
theorem d_LA_law_857 : decode code 857 = .ok (.iconst 0, 1) := by decide +kernel
theorem d_LA_law_858 : decode code 858 = .ok (.ireturn, 1) := by decide +kernel
theorem d_LA_law_859 : decode code 859 = .ok (.iinc 3 9, 3) := by decide +kernel
theorem d_LA_law_862 : decode code 862 = .ok (.goto (-844), 3) := by decide +kernel
theorem d_LA_law_865 : decode code 865 = .ok (.iconst 1, 1) := by decide +kernel
theorem d_LA_law_866 : decode code 866 = .ok (.ireturn, 1) := by decide +kernel

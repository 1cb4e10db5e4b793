/-! the law's code, row by row (2) -/
theorem tdl_554 : decode code 554 = .ok (.iload_n 3, 1) := by decide +kernel
theorem tdl_555 : decode code 555 = .ok (.iconst 1, 1) := by decide +kernel
theorem tdl_556 : decode code 556 = .ok (.iadd, 1) := by decide +kernel
theorem tdl_557 : decode code 557 = .ok (.iaload, 1) := by decide +kernel
theorem tdl_558 : decode code 558 = .ok (.aload_n 0, 1) := by decide +kernel
theorem tdl_559 : decode code 559 = .ok (.iload_n 3, 1) := by decide +kernel
theorem tdl_560 : decode code 560 = .ok (.iconst 2, 1) := by decide +kernel
theorem tdl_561 : decode code 561 = .ok (.iadd, 1) := by decide +kernel
theorem tdl_562 : decode code 562 = .ok (.iaload, 1) := by decide +kernel
theorem tdl_563 : decode code 563 = .ok (.invokevirtual 57, 3) := by decide +kernel
theorem tdl_566 : decode code 566 = .ok (.pop, 1) := by decide +kernel
theorem tdl_567 : decode code 567 = .ok (.aload_n 2, 1) := by decide +kernel
theorem tdl_568 : decode code 568 = .ok (.aload_n 0, 1) := by decide +kernel
theorem tdl_569 : decode code 569 = .ok (.iload_n 3, 1) := by decide +kernel
theorem tdl_570 : decode code 570 = .ok (.iconst 1, 1) := by decide +kernel
theorem tdl_571 : decode code 571 = .ok (.iadd, 1) := by decide +kernel
theorem tdl_572 : decode code 572 = .ok (.iaload, 1) := by decide +kernel
theorem tdl_573 : decode code 573 = .ok (.aload_n 0, 1) := by decide +kernel
theorem tdl_574 : decode code 574 = .ok (.iload_n 3, 1) := by decide +kernel
theorem tdl_575 : decode code 575 = .ok (.iconst 2, 1) := by decide +kernel
theorem tdl_576 : decode code 576 = .ok (.iadd, 1) := by decide +kernel
theorem tdl_577 : decode code 577 = .ok (.iaload, 1) := by decide +kernel
theorem tdl_578 : decode code 578 = .ok (.invokevirtual 60, 3) := by decide +kernel
theorem tdl_581 : decode code 581 = .ok (.pop, 1) := by decide +kernel
theorem tdl_582 : decode code 582 = .ok (.goto 778, 3) := by decide +kernel
theorem tdl_585 : decode code 585 = .ok (.aload_n 1, 1) := by decide +kernel
theorem tdl_586 : decode code 586 = .ok (.aload_n 0, 1) := by decide +kernel
theorem tdl_587 : decode code 587 = .ok (.iload_n 3, 1) := by decide +kernel
theorem tdl_588 : decode code 588 = .ok (.iconst 1, 1) := by decide +kernel
theorem tdl_589 : decode code 589 = .ok (.iadd, 1) := by decide +kernel
theorem tdl_590 : decode code 590 = .ok (.iaload, 1) := by decide +kernel
theorem tdl_591 : decode code 591 = .ok (.aload_n 0, 1) := by decide +kernel
theorem tdl_592 : decode code 592 = .ok (.iload_n 3, 1) := by decide +kernel
theorem tdl_593 : decode code 593 = .ok (.iconst 2, 1) := by decide +kernel
theorem tdl_594 : decode code 594 = .ok (.iadd, 1) := by decide +kernel
theorem tdl_595 : decode code 595 = .ok (.iaload, 1) := by decide +kernel
theorem tdl_596 : decode code 596 = .ok (.i2l, 1) := by decide +kernel
theorem tdl_597 : decode code 597 = .ok (.bipush 32, 2) := by decide +kernel
theorem tdl_599 : decode code 599 = .ok (.lshl, 1) := by decide +kernel
theorem tdl_600 : decode code 600 = .ok (.aload_n 0, 1) := by decide +kernel
theorem tdl_601 : decode code 601 = .ok (.iload_n 3, 1) := by decide +kernel
theorem tdl_602 : decode code 602 = .ok (.iconst 3, 1) := by decide +kernel
theorem tdl_603 : decode code 603 = .ok (.iadd, 1) := by decide +kernel
theorem tdl_604 : decode code 604 = .ok (.iaload, 1) := by decide +kernel
theorem tdl_605 : decode code 605 = .ok (.i2l, 1) := by decide +kernel
theorem tdl_606 : decode code 606 = .ok (.ldc2_w 61, 3) := by decide +kernel
theorem tdl_609 : decode code 609 = .ok (.land, 1) := by decide +kernel
theorem tdl_610 : decode code 610 = .ok (.lor, 1) := by decide +kernel
theorem tdl_611 : decode code 611 = .ok (.invokevirtual 63, 3) := by decide +kernel
theorem tdl_614 : decode code 614 = .ok (.pop, 1) := by decide +kernel
theorem tdl_615 : decode code 615 = .ok (.aload_n 2, 1) := by decide +kernel
theorem tdl_616 : decode code 616 = .ok (.aload_n 0, 1) := by decide +kernel
theorem tdl_617 : decode code 617 = .ok (.iload_n 3, 1) := by decide +kernel
theorem tdl_618 : decode code 618 = .ok (.iconst 1, 1) := by decide +kernel
theorem tdl_619 : decode code 619 = .ok (.iadd, 1) := by decide +kernel
theorem tdl_620 : decode code 620 = .ok (.iaload, 1) := by decide +kernel
theorem tdl_621 : decode code 621 = .ok (.aload_n 0, 1) := by decide +kernel
theorem tdl_622 : decode code 622 = .ok (.iload_n 3, 1) := by decide +kernel
theorem tdl_623 : decode code 623 = .ok (.iconst 2, 1) := by decide +kernel
theorem tdl_624 : decode code 624 = .ok (.iadd, 1) := by decide +kernel
theorem tdl_625 : decode code 625 = .ok (.iaload, 1) := by decide +kernel
theorem tdl_626 : decode code 626 = .ok (.i2l, 1) := by decide +kernel
theorem tdl_627 : decode code 627 = .ok (.bipush 32, 2) := by decide +kernel
theorem tdl_629 : decode code 629 = .ok (.lshl, 1) := by decide +kernel
theorem tdl_630 : decode code 630 = .ok (.aload_n 0, 1) := by decide +kernel
theorem tdl_631 : decode code 631 = .ok (.iload_n 3, 1) := by decide +kernel
theorem tdl_632 : decode code 632 = .ok (.iconst 3, 1) := by decide +kernel
theorem tdl_633 : decode code 633 = .ok (.iadd, 1) := by decide +kernel
theorem tdl_634 : decode code 634 = .ok (.iaload, 1) := by decide +kernel
theorem tdl_635 : decode code 635 = .ok (.i2l, 1) := by decide +kernel
theorem tdl_636 : decode code 636 = .ok (.ldc2_w 61, 3) := by decide +kernel
theorem tdl_639 : decode code 639 = .ok (.land, 1) := by decide +kernel
theorem tdl_640 : decode code 640 = .ok (.lor, 1) := by decide +kernel
theorem tdl_641 : decode code 641 = .ok (.invokevirtual 67, 3) := by decide +kernel
theorem tdl_644 : decode code 644 = .ok (.pop, 1) := by decide +kernel
theorem tdl_645 : decode code 645 = .ok (.goto 715, 3) := by decide +kernel
theorem tdl_648 : decode code 648 = .ok (.aload_n 1, 1) := by decide +kernel
theorem tdl_649 : decode code 649 = .ok (.aload_n 0, 1) := by decide +kernel
theorem tdl_650 : decode code 650 = .ok (.iload_n 3, 1) := by decide +kernel
theorem tdl_651 : decode code 651 = .ok (.iconst 1, 1) := by decide +kernel
theorem tdl_652 : decode code 652 = .ok (.iadd, 1) := by decide +kernel
theorem tdl_653 : decode code 653 = .ok (.iaload, 1) := by decide +kernel
theorem tdl_654 : decode code 654 = .ok (.aload_n 0, 1) := by decide +kernel
theorem tdl_655 : decode code 655 = .ok (.iload_n 3, 1) := by decide +kernel
theorem tdl_656 : decode code 656 = .ok (.iconst 2, 1) := by decide +kernel
theorem tdl_657 : decode code 657 = .ok (.iadd, 1) := by decide +kernel
theorem tdl_658 : decode code 658 = .ok (.iaload, 1) := by decide +kernel
theorem tdl_659 : decode code 659 = .ok (.aload_n 0, 1) := by decide +kernel
theorem tdl_660 : decode code 660 = .ok (.iload_n 3, 1) := by decide +kernel
theorem tdl_661 : decode code 661 = .ok (.iconst 3, 1) := by decide +kernel
theorem tdl_662 : decode code 662 = .ok (.iadd, 1) := by decide +kernel
theorem tdl_663 : decode code 663 = .ok (.iaload, 1) := by decide +kernel
theorem tdl_664 : decode code 664 = .ok (.aload_n 0, 1) := by decide +kernel
theorem tdl_665 : decode code 665 = .ok (.iload_n 3, 1) := by decide +kernel
theorem tdl_666 : decode code 666 = .ok (.iconst 4, 1) := by decide +kernel
theorem tdl_667 : decode code 667 = .ok (.iadd, 1) := by decide +kernel
theorem tdl_668 : decode code 668 = .ok (.iaload, 1) := by decide +kernel
theorem tdl_669 : decode code 669 = .ok (.invokevirtual 68, 3) := by decide +kernel
theorem tdl_672 : decode code 672 = .ok (.pop, 1) := by decide +kernel
theorem tdl_673 : decode code 673 = .ok (.aload_n 2, 1) := by decide +kernel
theorem tdl_674 : decode code 674 = .ok (.aload_n 0, 1) := by decide +kernel
theorem tdl_675 : decode code 675 = .ok (.iload_n 3, 1) := by decide +kernel
theorem tdl_676 : decode code 676 = .ok (.iconst 1, 1) := by decide +kernel
theorem tdl_677 : decode code 677 = .ok (.iadd, 1) := by decide +kernel
theorem tdl_678 : decode code 678 = .ok (.iaload, 1) := by decide +kernel
theorem tdl_679 : decode code 679 = .ok (.aload_n 0, 1) := by decide +kernel
theorem tdl_680 : decode code 680 = .ok (.iload_n 3, 1) := by decide +kernel
theorem tdl_681 : decode code 681 = .ok (.iconst 2, 1) := by decide +kernel
theorem tdl_682 : decode code 682 = .ok (.iadd, 1) := by decide +kernel
theorem tdl_683 : decode code 683 = .ok (.iaload, 1) := by decide +kernel
theorem tdl_684 : decode code 684 = .ok (.aload_n 0, 1) := by decide +kernel
theorem tdl_685 : decode code 685 = .ok (.iload_n 3, 1) := by decide +kernel
theorem tdl_686 : decode code 686 = .ok (.iconst 3, 1) := by decide +kernel
theorem tdl_687 : decode code 687 = .ok (.iadd, 1) := by decide +kernel
theorem tdl_688 : decode code 688 = .ok (.iaload, 1) := by decide +kernel
theorem tdl_689 : decode code 689 = .ok (.aload_n 0, 1) := by decide +kernel
theorem tdl_690 : decode code 690 = .ok (.iload_n 3, 1) := by decide +kernel
theorem tdl_691 : decode code 691 = .ok (.iconst 4, 1) := by decide +kernel
theorem tdl_692 : decode code 692 = .ok (.iadd, 1) := by decide +kernel
theorem tdl_693 : decode code 693 = .ok (.iaload, 1) := by decide +kernel
theorem tdl_694 : decode code 694 = .ok (.invokevirtual 72, 3) := by decide +kernel
theorem tdl_697 : decode code 697 = .ok (.pop, 1) := by decide +kernel
theorem tdl_698 : decode code 698 = .ok (.goto 662, 3) := by decide +kernel
theorem tdl_701 : decode code 701 = .ok (.aload_n 1, 1) := by decide +kernel
theorem tdl_702 : decode code 702 = .ok (.aload_n 0, 1) := by decide +kernel
theorem tdl_703 : decode code 703 = .ok (.iload_n 3, 1) := by decide +kernel
theorem tdl_704 : decode code 704 = .ok (.iconst 1, 1) := by decide +kernel
theorem tdl_705 : decode code 705 = .ok (.iadd, 1) := by decide +kernel
theorem tdl_706 : decode code 706 = .ok (.iaload, 1) := by decide +kernel
theorem tdl_707 : decode code 707 = .ok (.aload_n 0, 1) := by decide +kernel
theorem tdl_708 : decode code 708 = .ok (.iload_n 3, 1) := by decide +kernel
theorem tdl_709 : decode code 709 = .ok (.iconst 2, 1) := by decide +kernel
theorem tdl_710 : decode code 710 = .ok (.iadd, 1) := by decide +kernel
theorem tdl_711 : decode code 711 = .ok (.iaload, 1) := by decide +kernel
theorem tdl_712 : decode code 712 = .ok (.invokevirtual 73, 3) := by decide +kernel
theorem tdl_715 : decode code 715 = .ok (.pop, 1) := by decide +kernel
theorem tdl_716 : decode code 716 = .ok (.aload_n 2, 1) := by decide +kernel
theorem tdl_717 : decode code 717 = .ok (.aload_n 0, 1) := by decide +kernel
theorem tdl_718 : decode code 718 = .ok (.iload_n 3, 1) := by decide +kernel
theorem tdl_719 : decode code 719 = .ok (.iconst 1, 1) := by decide +kernel
theorem tdl_720 : decode code 720 = .ok (.iadd, 1) := by decide +kernel
theorem tdl_721 : decode code 721 = .ok (.iaload, 1) := by decide +kernel
theorem tdl_722 : decode code 722 = .ok (.aload_n 0, 1) := by decide +kernel
theorem tdl_723 : decode code 723 = .ok (.iload_n 3, 1) := by decide +kernel
theorem tdl_724 : decode code 724 = .ok (.iconst 2, 1) := by decide +kernel
theorem tdl_725 : decode code 725 = .ok (.iadd, 1) := by decide +kernel
theorem tdl_726 : decode code 726 = .ok (.iaload, 1) := by decide +kernel
theorem tdl_727 : decode code 727 = .ok (.invokevirtual 76, 3) := by decide +kernel
theorem tdl_730 : decode code 730 = .ok (.pop, 1) := by decide +kernel
theorem tdl_731 : decode code 731 = .ok (.goto 629, 3) := by decide +kernel
theorem tdl_734 : decode code 734 = .ok (.aload_n 1, 1) := by decide +kernel
theorem tdl_735 : decode code 735 = .ok (.aload_n 0, 1) := by decide +kernel
theorem tdl_736 : decode code 736 = .ok (.iload_n 3, 1) := by decide +kernel
theorem tdl_737 : decode code 737 = .ok (.iconst 1, 1) := by decide +kernel
theorem tdl_738 : decode code 738 = .ok (.iadd, 1) := by decide +kernel
theorem tdl_739 : decode code 739 = .ok (.iaload, 1) := by decide +kernel
theorem tdl_740 : decode code 740 = .ok (.aload_n 0, 1) := by decide +kernel
theorem tdl_741 : decode code 741 = .ok (.iload_n 3, 1) := by decide +kernel
theorem tdl_742 : decode code 742 = .ok (.iconst 2, 1) := by decide +kernel
theorem tdl_743 : decode code 743 = .ok (.iadd, 1) := by decide +kernel
theorem tdl_744 : decode code 744 = .ok (.iaload, 1) := by decide +kernel
theorem tdl_745 : decode code 745 = .ok (.invokevirtual 77, 3) := by decide +kernel

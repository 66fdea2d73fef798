theorem dX13_init_459 : decode cX13_init 459 = .ok (.newarray .int, 2) := by decide +kernel
theorem dX13_init_461 : decode cX13_init 461 = .ok (.putfield 448, 3) := by decide +kernel
theorem dX13_init_464 : decode cX13_init 464 = .ok (.aload_n 0, 1) := by decide +kernel
theorem dX13_init_465 : decode cX13_init 465 = .ok (.sipush 7344, 3) := by decide +kernel
theorem dX13_init_468 : decode cX13_init 468 = .ok (.newarray .int, 2) := by decide +kernel
theorem dX13_init_470 : decode cX13_init 470 = .ok (.putfield 365, 3) := by decide +kernel
theorem dX13_init_473 : decode cX13_init 473 = .ok (.aload_n 0, 1) := by decide +kernel
theorem dX13_init_474 : decode cX13_init 474 = .ok (.sipush 7344, 3) := by decide +kernel
theorem dX13_init_477 : decode cX13_init 477 = .ok (.newarray .int, 2) := by decide +kernel
theorem dX13_init_479 : decode cX13_init 479 = .ok (.putfield 368, 3) := by decide +kernel
theorem dX13_init_482 : decode cX13_init 482 = .ok (.aload_n 0, 1) := by decide +kernel
theorem dX13_init_483 : decode cX13_init 483 = .ok (.sipush 7344, 3) := by decide +kernel
theorem dX13_init_486 : decode cX13_init 486 = .ok (.newarray .int, 2) := by decide +kernel
theorem dX13_init_488 : decode cX13_init 488 = .ok (.putfield 371, 3) := by decide +kernel
theorem dX13_init_491 : decode cX13_init 491 = .ok (.aload_n 0, 1) := by decide +kernel
theorem dX13_init_492 : decode cX13_init 492 = .ok (.sipush 7344, 3) := by decide +kernel
theorem dX13_init_495 : decode cX13_init 495 = .ok (.newarray .int, 2) := by decide +kernel
theorem dX13_init_497 : decode cX13_init 497 = .ok (.putfield 374, 3) := by decide +kernel
theorem dX13_init_500 : decode cX13_init 500 = .ok (.aload_n 0, 1) := by decide +kernel
theorem dX13_init_501 : decode cX13_init 501 = .ok (.sipush 7344, 3) := by decide +kernel
theorem dX13_init_504 : decode cX13_init 504 = .ok (.newarray .boolean, 2) := by decide +kernel
theorem dX13_init_506 : decode cX13_init 506 = .ok (.putfield 377, 3) := by decide +kernel
theorem dX13_init_509 : decode cX13_init 509 = .ok (.aload_n 0, 1) := by decide +kernel
theorem dX13_init_510 : decode cX13_init 510 = .ok (.sipush 7344, 3) := by decide +kernel
theorem dX13_init_513 : decode cX13_init 513 = .ok (.newarray .int, 2) := by decide +kernel
theorem dX13_init_515 : decode cX13_init 515 = .ok (.putfield 380, 3) := by decide +kernel
theorem dX13_init_518 : decode cX13_init 518 = .ok (.aload_n 0, 1) := by decide +kernel
theorem dX13_init_519 : decode cX13_init 519 = .ok (.sipush 7344, 3) := by decide +kernel
theorem dX13_init_522 : decode cX13_init 522 = .ok (.newarray .long, 2) := by decide +kernel
theorem dX13_init_524 : decode cX13_init 524 = .ok (.putfield 383, 3) := by decide +kernel
theorem dX13_init_527 : decode cX13_init 527 = .ok (.aload_n 0, 1) := by decide +kernel
theorem dX13_init_528 : decode cX13_init 528 = .ok (.sipush 7344, 3) := by decide +kernel
theorem dX13_init_531 : decode cX13_init 531 = .ok (.newarray .int, 2) := by decide +kernel
theorem dX13_init_533 : decode cX13_init 533 = .ok (.putfield 386, 3) := by decide +kernel
theorem dX13_init_536 : decode cX13_init 536 = .ok (.aload_n 0, 1) := by decide +kernel
theorem dX13_init_537 : decode cX13_init 537 = .ok (.sipush 7344, 3) := by decide +kernel
theorem dX13_init_540 : decode cX13_init 540 = .ok (.newarray .int, 2) := by decide +kernel
theorem dX13_init_542 : decode cX13_init 542 = .ok (.putfield 389, 3) := by decide +kernel
theorem dX13_init_545 : decode cX13_init 545 = .ok (.aload_n 0, 1) := by decide +kernel
theorem dX13_init_546 : decode cX13_init 546 = .ok (.bipush 18, 2) := by decide +kernel
theorem dX13_init_548 : decode cX13_init 548 = .ok (.newarray .int, 2) := by decide +kernel
theorem dX13_init_550 : decode cX13_init 550 = .ok (.putfield 170, 3) := by decide +kernel
theorem dX13_init_553 : decode cX13_init 553 = .ok (.aload_n 0, 1) := by decide +kernel
theorem dX13_init_554 : decode cX13_init 554 = .ok (.sipush 30600, 3) := by decide +kernel
theorem dX13_init_557 : decode cX13_init 557 = .ok (.newarray .int, 2) := by decide +kernel
theorem dX13_init_559 : decode cX13_init 559 = .ok (.putfield 173, 3) := by decide +kernel
theorem dX13_init_562 : decode cX13_init 562 = .ok (.aload_n 0, 1) := by decide +kernel
theorem dX13_init_563 : decode cX13_init 563 = .ok (.sipush 30600, 3) := by decide +kernel
theorem dX13_init_566 : decode cX13_init 566 = .ok (.newarray .int, 2) := by decide +kernel
theorem dX13_init_568 : decode cX13_init 568 = .ok (.putfield 176, 3) := by decide +kernel
theorem dX13_init_571 : decode cX13_init 571 = .ok (.aload_n 0, 1) := by decide +kernel
theorem dX13_init_572 : decode cX13_init 572 = .ok (.sipush 30600, 3) := by decide +kernel
theorem dX13_init_575 : decode cX13_init 575 = .ok (.newarray .int, 2) := by decide +kernel
theorem dX13_init_577 : decode cX13_init 577 = .ok (.putfield 179, 3) := by decide +kernel
theorem dX13_init_580 : decode cX13_init 580 = .ok (.aload_n 0, 1) := by decide +kernel
theorem dX13_init_581 : decode cX13_init 581 = .ok (.sipush 30600, 3) := by decide +kernel
theorem dX13_init_584 : decode cX13_init 584 = .ok (.newarray .int, 2) := by decide +kernel
theorem dX13_init_586 : decode cX13_init 586 = .ok (.putfield 182, 3) := by decide +kernel
theorem dX13_init_589 : decode cX13_init 589 = .ok (.aload_n 0, 1) := by decide +kernel
theorem dX13_init_590 : decode cX13_init 590 = .ok (.sipush 30600, 3) := by decide +kernel
theorem dX13_init_593 : decode cX13_init 593 = .ok (.newarray .long, 2) := by decide +kernel
theorem dX13_init_595 : decode cX13_init 595 = .ok (.putfield 185, 3) := by decide +kernel
theorem dX13_init_598 : decode cX13_init 598 = .ok (.aload_n 0, 1) := by decide +kernel
theorem dX13_init_599 : decode cX13_init 599 = .ok (.sipush 30600, 3) := by decide +kernel
theorem dX13_init_602 : decode cX13_init 602 = .ok (.newarray .long, 2) := by decide +kernel
theorem dX13_init_604 : decode cX13_init 604 = .ok (.putfield 188, 3) := by decide +kernel
theorem dX13_init_607 : decode cX13_init 607 = .ok (.aload_n 0, 1) := by decide +kernel
theorem dX13_init_608 : decode cX13_init 608 = .ok (.sipush 30600, 3) := by decide +kernel
theorem dX13_init_611 : decode cX13_init 611 = .ok (.newarray .long, 2) := by decide +kernel
theorem dX13_init_613 : decode cX13_init 613 = .ok (.putfield 191, 3) := by decide +kernel
theorem dX13_init_616 : decode cX13_init 616 = .ok (.aload_n 0, 1) := by decide +kernel
theorem dX13_init_617 : decode cX13_init 617 = .ok (.sipush 30600, 3) := by decide +kernel
theorem dX13_init_620 : decode cX13_init 620 = .ok (.newarray .int, 2) := by decide +kernel
theorem dX13_init_622 : decode cX13_init 622 = .ok (.putfield 194, 3) := by decide +kernel
theorem dX13_init_625 : decode cX13_init 625 = .ok (.aload_n 0, 1) := by decide +kernel
theorem dX13_init_626 : decode cX13_init 626 = .ok (.sipush 30600, 3) := by decide +kernel
theorem dX13_init_629 : decode cX13_init 629 = .ok (.newarray .int, 2) := by decide +kernel
theorem dX13_init_631 : decode cX13_init 631 = .ok (.putfield 197, 3) := by decide +kernel
theorem dX13_init_634 : decode cX13_init 634 = .ok (.aload_n 0, 1) := by decide +kernel
theorem dX13_init_635 : decode cX13_init 635 = .ok (.sipush 30600, 3) := by decide +kernel
theorem dX13_init_638 : decode cX13_init 638 = .ok (.newarray .int, 2) := by decide +kernel
theorem dX13_init_640 : decode cX13_init 640 = .ok (.putfield 200, 3) := by decide +kernel
theorem dX13_init_643 : decode cX13_init 643 = .ok (.aload_n 0, 1) := by decide +kernel
theorem dX13_init_644 : decode cX13_init 644 = .ok (.sipush 30600, 3) := by decide +kernel
theorem dX13_init_647 : decode cX13_init 647 = .ok (.newarray .int, 2) := by decide +kernel
theorem dX13_init_649 : decode cX13_init 649 = .ok (.putfield 203, 3) := by decide +kernel
theorem dX13_init_652 : decode cX13_init 652 = .ok (.aload_n 0, 1) := by decide +kernel
theorem dX13_init_653 : decode cX13_init 653 = .ok (.sipush 30600, 3) := by decide +kernel
theorem dX13_init_656 : decode cX13_init 656 = .ok (.newarray .int, 2) := by decide +kernel
theorem dX13_init_658 : decode cX13_init 658 = .ok (.putfield 206, 3) := by decide +kernel
theorem dX13_init_661 : decode cX13_init 661 = .ok (.aload_n 0, 1) := by decide +kernel
theorem dX13_init_662 : decode cX13_init 662 = .ok (.sipush 30600, 3) := by decide +kernel
theorem dX13_init_665 : decode cX13_init 665 = .ok (.newarray .int, 2) := by decide +kernel
theorem dX13_init_667 : decode cX13_init 667 = .ok (.putfield 209, 3) := by decide +kernel
theorem dX13_init_670 : decode cX13_init 670 = .ok (.aload_n 0, 1) := by decide +kernel
theorem dX13_init_671 : decode cX13_init 671 = .ok (.sipush 30600, 3) := by decide +kernel
theorem dX13_init_674 : decode cX13_init 674 = .ok (.newarray .long, 2) := by decide +kernel
theorem dX13_init_676 : decode cX13_init 676 = .ok (.putfield 212, 3) := by decide +kernel
theorem dX13_init_679 : decode cX13_init 679 = .ok (.aload_n 0, 1) := by decide +kernel
theorem dX13_init_680 : decode cX13_init 680 = .ok (.sipush 30600, 3) := by decide +kernel
theorem dX13_init_683 : decode cX13_init 683 = .ok (.newarray .long, 2) := by decide +kernel
theorem dX13_init_685 : decode cX13_init 685 = .ok (.putfield 215, 3) := by decide +kernel
theorem dX13_init_688 : decode cX13_init 688 = .ok (.aload_n 0, 1) := by decide +kernel
theorem dX13_init_689 : decode cX13_init 689 = .ok (.sipush 30600, 3) := by decide +kernel
theorem dX13_init_692 : decode cX13_init 692 = .ok (.newarray .int, 2) := by decide +kernel
theorem dX13_init_694 : decode cX13_init 694 = .ok (.putfield 218, 3) := by decide +kernel
theorem dX13_init_697 : decode cX13_init 697 = .ok (.aload_n 0, 1) := by decide +kernel
theorem dX13_init_698 : decode cX13_init 698 = .ok (.ldc_w 1486, 3) := by decide +kernel
theorem dX13_init_701 : decode cX13_init 701 = .ok (.newarray .long, 2) := by decide +kernel
theorem dX13_init_703 : decode cX13_init 703 = .ok (.putfield 825, 3) := by decide +kernel
theorem dX13_init_706 : decode cX13_init 706 = .ok (.aload_n 0, 1) := by decide +kernel
theorem dX13_init_707 : decode cX13_init 707 = .ok (.sipush 30600, 3) := by decide +kernel
theorem dX13_init_710 : decode cX13_init 710 = .ok (.newarray .int, 2) := by decide +kernel
theorem dX13_init_712 : decode cX13_init 712 = .ok (.putfield 221, 3) := by decide +kernel
theorem dX13_init_715 : decode cX13_init 715 = .ok (.aload_n 0, 1) := by decide +kernel
theorem dX13_init_716 : decode cX13_init 716 = .ok (.sipush 30600, 3) := by decide +kernel
theorem dX13_init_719 : decode cX13_init 719 = .ok (.newarray .int, 2) := by decide +kernel
theorem dX13_init_721 : decode cX13_init 721 = .ok (.putfield 224, 3) := by decide +kernel
theorem dX13_init_724 : decode cX13_init 724 = .ok (.aload_n 0, 1) := by decide +kernel
theorem dX13_init_725 : decode cX13_init 725 = .ok (.iconst 5, 1) := by decide +kernel
theorem dX13_init_726 : decode cX13_init 726 = .ok (.newarray .int, 2) := by decide +kernel
theorem dX13_init_728 : decode cX13_init 728 = .ok (.putfield 535, 3) := by decide +kernel
theorem dX13_init_731 : decode cX13_init 731 = .ok (.aload_n 0, 1) := by decide +kernel
theorem dX13_init_732 : decode cX13_init 732 = .ok (.bipush (-2), 2) := by decide +kernel
theorem dX13_init_734 : decode cX13_init 734 = .ok (.putfield 528, 3) := by decide +kernel
theorem dX13_init_737 : decode cX13_init 737 = .ok (.aload_n 0, 1) := by decide +kernel
theorem dX13_init_738 : decode cX13_init 738 = .ok (.sipush 216, 3) := by decide +kernel
theorem dX13_init_741 : decode cX13_init 741 = .ok (.newarray .int, 2) := by decide +kernel
theorem dX13_init_743 : decode cX13_init 743 = .ok (.putfield 567, 3) := by decide +kernel
theorem dX13_init_746 : decode cX13_init 746 = .ok (.aload_n 0, 1) := by decide +kernel
theorem dX13_init_747 : decode cX13_init 747 = .ok (.sipush 216, 3) := by decide +kernel
theorem dX13_init_750 : decode cX13_init 750 = .ok (.newarray .int, 2) := by decide +kernel
theorem dX13_init_752 : decode cX13_init 752 = .ok (.putfield 570, 3) := by decide +kernel
theorem dX13_init_755 : decode cX13_init 755 = .ok (.aload_n 0, 1) := by decide +kernel
theorem dX13_init_756 : decode cX13_init 756 = .ok (.sipush 4000, 3) := by decide +kernel
theorem dX13_init_759 : decode cX13_init 759 = .ok (.newarray .int, 2) := by decide +kernel
theorem dX13_init_761 : decode cX13_init 761 = .ok (.putfield 576, 3) := by decide +kernel
theorem dX13_init_764 : decode cX13_init 764 = .ok (.aload_n 0, 1) := by decide +kernel
theorem dX13_init_765 : decode cX13_init 765 = .ok (.sipush 216, 3) := by decide +kernel
theorem dX13_init_768 : decode cX13_init 768 = .ok (.newarray .int, 2) := by decide +kernel
theorem dX13_init_770 : decode cX13_init 770 = .ok (.putfield 611, 3) := by decide +kernel
theorem dX13_init_773 : decode cX13_init 773 = .ok (.aload_n 0, 1) := by decide +kernel
theorem dX13_init_774 : decode cX13_init 774 = .ok (.sipush 216, 3) := by decide +kernel
theorem dX13_init_777 : decode cX13_init 777 = .ok (.newarray .int, 2) := by decide +kernel
theorem dX13_init_779 : decode cX13_init 779 = .ok (.putfield 637, 3) := by decide +kernel
theorem dX13_init_782 : decode cX13_init 782 = .ok (.aload_n 0, 1) := by decide +kernel
theorem dX13_init_783 : decode cX13_init 783 = .ok (.sipush 216, 3) := by decide +kernel
theorem dX13_init_786 : decode cX13_init 786 = .ok (.newarray .int, 2) := by decide +kernel
theorem dX13_init_788 : decode cX13_init 788 = .ok (.putfield 630, 3) := by decide +kernel
theorem dX13_init_791 : decode cX13_init 791 = .ok (.aload_n 0, 1) := by decide +kernel
theorem dX13_init_792 : decode cX13_init 792 = .ok (.sipush 432, 3) := by decide +kernel
theorem dX13_init_795 : decode cX13_init 795 = .ok (.newarray .int, 2) := by decide +kernel
theorem dX13_init_797 : decode cX13_init 797 = .ok (.putfield 668, 3) := by decide +kernel
theorem dX13_init_800 : decode cX13_init 800 = .ok (.aload_n 0, 1) := by decide +kernel
theorem dX13_init_801 : decode cX13_init 801 = .ok (.sipush 216, 3) := by decide +kernel
theorem dX13_init_804 : decode cX13_init 804 = .ok (.newarray .int, 2) := by decide +kernel
theorem dX13_init_806 : decode cX13_init 806 = .ok (.putfield 674, 3) := by decide +kernel
theorem dX13_init_809 : decode cX13_init 809 = .ok (.aload_n 0, 1) := by decide +kernel
theorem dX13_init_810 : decode cX13_init 810 = .ok (.sipush 216, 3) := by decide +kernel
theorem dX13_init_813 : decode cX13_init 813 = .ok (.newarray .int, 2) := by decide +kernel
theorem dX13_init_815 : decode cX13_init 815 = .ok (.putfield 705, 3) := by decide +kernel
theorem dX13_init_818 : decode cX13_init 818 = .ok (.aload_n 0, 1) := by decide +kernel
theorem dX13_init_819 : decode cX13_init 819 = .ok (.sipush 1704, 3) := by decide +kernel
theorem dX13_init_822 : decode cX13_init 822 = .ok (.newarray .int, 2) := by decide +kernel
theorem dX13_init_824 : decode cX13_init 824 = .ok (.putfield 726, 3) := by decide +kernel
theorem dX13_init_827 : decode cX13_init 827 = .ok (.aload_n 0, 1) := by decide +kernel
theorem dX13_init_828 : decode cX13_init 828 = .ok (.sipush 720, 3) := by decide +kernel
theorem dX13_init_831 : decode cX13_init 831 = .ok (.newarray .long, 2) := by decide +kernel
theorem dX13_init_833 : decode cX13_init 833 = .ok (.putfield 780, 3) := by decide +kernel
theorem dX13_init_836 : decode cX13_init 836 = .ok (.aload_n 0, 1) := by decide +kernel
theorem dX13_init_837 : decode cX13_init 837 = .ok (.sipush 720, 3) := by decide +kernel
theorem dX13_init_840 : decode cX13_init 840 = .ok (.newarray .long, 2) := by decide +kernel
theorem dX13_init_842 : decode cX13_init 842 = .ok (.putfield 783, 3) := by decide +kernel
theorem dX13_init_845 : decode cX13_init 845 = .ok (.aload_n 0, 1) := by decide +kernel
theorem dX13_init_846 : decode cX13_init 846 = .ok (.sipush 432, 3) := by decide +kernel
theorem dX13_init_849 : decode cX13_init 849 = .ok (.newarray .int, 2) := by decide +kernel
theorem dX13_init_851 : decode cX13_init 851 = .ok (.putfield 841, 3) := by decide +kernel
theorem dX13_init_854 : decode cX13_init 854 = .ok (.aload_n 0, 1) := by decide +kernel
theorem dX13_init_855 : decode cX13_init 855 = .ok (.sipush 216, 3) := by decide +kernel
theorem dX13_init_858 : decode cX13_init 858 = .ok (.newarray .int, 2) := by decide +kernel
theorem dX13_init_860 : decode cX13_init 860 = .ok (.putfield 844, 3) := by decide +kernel
theorem dX13_init_863 : decode cX13_init 863 = .ok (.aload_n 0, 1) := by decide +kernel
theorem dX13_init_864 : decode cX13_init 864 = .ok (.bipush 17, 2) := by decide +kernel
theorem dX13_init_866 : decode cX13_init 866 = .ok (.newarray .int, 2) := by decide +kernel
theorem dX13_init_868 : decode cX13_init 868 = .ok (.putfield 863, 3) := by decide +kernel
theorem dX13_init_871 : decode cX13_init 871 = .ok (.aload_n 0, 1) := by decide +kernel
theorem dX13_init_872 : decode cX13_init 872 = .ok (.sipush 30600, 3) := by decide +kernel
theorem dX13_init_875 : decode cX13_init 875 = .ok (.newarray .int, 2) := by decide +kernel
theorem dX13_init_877 : decode cX13_init 877 = .ok (.putfield 866, 3) := by decide +kernel
theorem dX13_init_880 : decode cX13_init 880 = .ok (.aload_n 0, 1) := by decide +kernel
theorem dX13_init_881 : decode cX13_init 881 = .ok (.sipush 30600, 3) := by decide +kernel
theorem dX13_init_884 : decode cX13_init 884 = .ok (.newarray .int, 2) := by decide +kernel
theorem dX13_init_886 : decode cX13_init 886 = .ok (.putfield 869, 3) := by decide +kernel
theorem dX13_init_889 : decode cX13_init 889 = .ok (.aload_n 0, 1) := by decide +kernel
theorem dX13_init_890 : decode cX13_init 890 = .ok (.sipush 30600, 3) := by decide +kernel
theorem dX13_init_893 : decode cX13_init 893 = .ok (.newarray .long, 2) := by decide +kernel
theorem dX13_init_895 : decode cX13_init 895 = .ok (.putfield 872, 3) := by decide +kernel
theorem dX13_init_898 : decode cX13_init 898 = .ok (.aload_n 0, 1) := by decide +kernel
theorem dX13_init_899 : decode cX13_init 899 = .ok (.sipush 30600, 3) := by decide +kernel
theorem dX13_init_902 : decode cX13_init 902 = .ok (.newarray .long, 2) := by decide +kernel
theorem dX13_init_904 : decode cX13_init 904 = .ok (.putfield 875, 3) := by decide +kernel
theorem dX13_init_907 : decode cX13_init 907 = .ok (.aload_n 0, 1) := by decide +kernel
theorem dX13_init_908 : decode cX13_init 908 = .ok (.sipush 30600, 3) := by decide +kernel
theorem dX13_init_911 : decode cX13_init 911 = .ok (.newarray .long, 2) := by decide +kernel
theorem dX13_init_913 : decode cX13_init 913 = .ok (.putfield 878, 3) := by decide +kernel
theorem dX13_init_916 : decode cX13_init 916 = .ok (.aload_n 0, 1) := by decide +kernel
theorem dX13_init_917 : decode cX13_init 917 = .ok (.sipush 30600, 3) := by decide +kernel
theorem dX13_init_920 : decode cX13_init 920 = .ok (.newarray .int, 2) := by decide +kernel
theorem dX13_init_922 : decode cX13_init 922 = .ok (.putfield 881, 3) := by decide +kernel
theorem dX13_init_925 : decode cX13_init 925 = .ok (.aload_n 0, 1) := by decide +kernel
theorem dX13_init_926 : decode cX13_init 926 = .ok (.ldc_w 1486, 3) := by decide +kernel
theorem dX13_init_929 : decode cX13_init 929 = .ok (.newarray .long, 2) := by decide +kernel
theorem dX13_init_931 : decode cX13_init 931 = .ok (.putfield 890, 3) := by decide +kernel
theorem dX13_init_934 : decode cX13_init 934 = .ok (.aload_n 0, 1) := by decide +kernel
theorem dX13_init_935 : decode cX13_init 935 = .ok (.sipush 30600, 3) := by decide +kernel
theorem dX13_init_938 : decode cX13_init 938 = .ok (.newarray .long, 2) := by decide +kernel
theorem dX13_init_940 : decode cX13_init 940 = .ok (.putfield 884, 3) := by decide +kernel
theorem dX13_init_943 : decode cX13_init 943 = .ok (.aload_n 0, 1) := by decide +kernel
theorem dX13_init_944 : decode cX13_init 944 = .ok (.sipush 30600, 3) := by decide +kernel
theorem dX13_init_947 : decode cX13_init 947 = .ok (.newarray .int, 2) := by decide +kernel
theorem dX13_init_949 : decode cX13_init 949 = .ok (.putfield 887, 3) := by decide +kernel
theorem dX13_init_952 : decode cX13_init 952 = .ok (.aload_n 0, 1) := by decide +kernel
theorem dX13_init_953 : decode cX13_init 953 = .ok (.bipush (-2), 2) := by decide +kernel
theorem dX13_init_955 : decode cX13_init 955 = .ok (.putfield 962, 3) := by decide +kernel
theorem dX13_init_958 : decode cX13_init 958 = .ok (.aload_n 0, 1) := by decide +kernel
theorem dX13_init_959 : decode cX13_init 959 = .ok (.bipush 64, 2) := by decide +kernel
theorem dX13_init_961 : decode cX13_init 961 = .ok (.newarray .int, 2) := by decide +kernel
theorem dX13_init_963 : decode cX13_init 963 = .ok (.putfield 1077, 3) := by decide +kernel
theorem dX13_init_966 : decode cX13_init 966 = .ok (.aload_n 0, 1) := by decide +kernel
theorem dX13_init_967 : decode cX13_init 967 = .ok (.sipush 216, 3) := by decide +kernel
theorem dX13_init_970 : decode cX13_init 970 = .ok (.newarray .int, 2) := by decide +kernel
theorem dX13_init_972 : decode cX13_init 972 = .ok (.putfield 1068, 3) := by decide +kernel
theorem dX13_init_975 : decode cX13_init 975 = .ok (.aload_n 0, 1) := by decide +kernel
theorem dX13_init_976 : decode cX13_init 976 = .ok (.sipush 128, 3) := by decide +kernel
theorem dX13_init_979 : decode cX13_init 979 = .ok (.newarray .int, 2) := by decide +kernel
theorem dX13_init_981 : decode cX13_init 981 = .ok (.putfield 1089, 3) := by decide +kernel
theorem dX13_init_984 : decode cX13_init 984 = .ok (.aload_n 0, 1) := by decide +kernel
theorem dX13_init_985 : decode cX13_init 985 = .ok (.sipush 128, 3) := by decide +kernel
theorem dX13_init_988 : decode cX13_init 988 = .ok (.newarray .int, 2) := by decide +kernel
theorem dX13_init_990 : decode cX13_init 990 = .ok (.putfield 1092, 3) := by decide +kernel
theorem dX13_init_993 : decode cX13_init 993 = .ok (.aload_n 0, 1) := by decide +kernel
theorem dX13_init_994 : decode cX13_init 994 = .ok (.sipush 600, 3) := by decide +kernel
theorem dX13_init_997 : decode cX13_init 997 = .ok (.newarray .int, 2) := by decide +kernel
theorem dX13_init_999 : decode cX13_init 999 = .ok (.putfield 1083, 3) := by decide +kernel
theorem dX13_init_1002 : decode cX13_init 1002 = .ok (.aload_n 0, 1) := by decide +kernel
theorem dX13_init_1003 : decode cX13_init 1003 = .ok (.sipush 216, 3) := by decide +kernel
theorem dX13_init_1006 : decode cX13_init 1006 = .ok (.newarray .int, 2) := by decide +kernel
theorem dX13_init_1008 : decode cX13_init 1008 = .ok (.putfield 1177, 3) := by decide +kernel
theorem dX13_init_1011 : decode cX13_init 1011 = .ok (.aload_n 0, 1) := by decide +kernel
theorem dX13_init_1012 : decode cX13_init 1012 = .ok (.sipush 216, 3) := by decide +kernel
theorem dX13_init_1015 : decode cX13_init 1015 = .ok (.newarray .int, 2) := by decide +kernel
theorem dX13_init_1017 : decode cX13_init 1017 = .ok (.putfield 1118, 3) := by decide +kernel
theorem dX13_init_1020 : decode cX13_init 1020 = .ok (.aload_n 0, 1) := by decide +kernel
theorem dX13_init_1021 : decode cX13_init 1021 = .ok (.sipush 216, 3) := by decide +kernel
theorem dX13_init_1024 : decode cX13_init 1024 = .ok (.newarray .int, 2) := by decide +kernel
theorem dX13_init_1026 : decode cX13_init 1026 = .ok (.putfield 1148, 3) := by decide +kernel
theorem dX13_init_1029 : decode cX13_init 1029 = .ok (.aload_n 0, 1) := by decide +kernel
theorem dX13_init_1030 : decode cX13_init 1030 = .ok (.sipush 27000, 3) := by decide +kernel
theorem dX13_init_1033 : decode cX13_init 1033 = .ok (.newarray .int, 2) := by decide +kernel
theorem dX13_init_1035 : decode cX13_init 1035 = .ok (.putfield 1183, 3) := by decide +kernel
theorem dX13_init_1038 : decode cX13_init 1038 = .ok (.aload_n 0, 1) := by decide +kernel
theorem dX13_init_1039 : decode cX13_init 1039 = .ok (.iconst 5, 1) := by decide +kernel
theorem dX13_init_1040 : decode cX13_init 1040 = .ok (.newarray .int, 2) := by decide +kernel
theorem dX13_init_1042 : decode cX13_init 1042 = .ok (.putfield 1189, 3) := by decide +kernel
theorem dX13_init_1045 : decode cX13_init 1045 = .ok (.aload_n 0, 1) := by decide +kernel
theorem dX13_init_1046 : decode cX13_init 1046 = .ok (.iconst 5, 1) := by decide +kernel
theorem dX13_init_1047 : decode cX13_init 1047 = .ok (.newarray .int, 2) := by decide +kernel
theorem dX13_init_1049 : decode cX13_init 1049 = .ok (.putfield 1186, 3) := by decide +kernel
theorem dX13_init_1052 : decode cX13_init 1052 = .ok (.aload_n 0, 1) := by decide +kernel
theorem dX13_init_1053 : decode cX13_init 1053 = .ok (.sipush 7344, 3) := by decide +kernel
theorem dX13_init_1056 : decode cX13_init 1056 = .ok (.newarray .int, 2) := by decide +kernel
theorem dX13_init_1058 : decode cX13_init 1058 = .ok (.putfield 1204, 3) := by decide +kernel
theorem dX13_init_1061 : decode cX13_init 1061 = .ok (.aload_n 0, 1) := by decide +kernel
theorem dX13_init_1062 : decode cX13_init 1062 = .ok (.sipush 202, 3) := by decide +kernel
theorem dX13_init_1065 : decode cX13_init 1065 = .ok (.newarray .int, 2) := by decide +kernel
theorem dX13_init_1067 : decode cX13_init 1067 = .ok (.putfield 1216, 3) := by decide +kernel
theorem dX13_init_1070 : decode cX13_init 1070 = .ok (.aload_n 0, 1) := by decide +kernel
theorem dX13_init_1071 : decode cX13_init 1071 = .ok (.sipush 202, 3) := by decide +kernel
theorem dX13_init_1074 : decode cX13_init 1074 = .ok (.newarray .int, 2) := by decide +kernel
theorem dX13_init_1076 : decode cX13_init 1076 = .ok (.putfield 1262, 3) := by decide +kernel
theorem dX13_init_1079 : decode cX13_init 1079 = .ok (.aload_n 0, 1) := by decide +kernel
theorem dX13_init_1080 : decode cX13_init 1080 = .ok (.sipush 2001, 3) := by decide +kernel
theorem dX13_init_1083 : decode cX13_init 1083 = .ok (.newarray .int, 2) := by decide +kernel
theorem dX13_init_1085 : decode cX13_init 1085 = .ok (.putfield 1265, 3) := by decide +kernel
theorem dX13_init_1088 : decode cX13_init 1088 = .ok (.aload_n 0, 1) := by decide +kernel
theorem dX13_init_1089 : decode cX13_init 1089 = .ok (.sipush 6240, 3) := by decide +kernel
theorem dX13_init_1092 : decode cX13_init 1092 = .ok (.newarray .int, 2) := by decide +kernel
theorem dX13_init_1094 : decode cX13_init 1094 = .ok (.putfield 1282, 3) := by decide +kernel
theorem dX13_init_1097 : decode cX13_init 1097 = .ok (.aload_n 0, 1) := by decide +kernel
theorem dX13_init_1098 : decode cX13_init 1098 = .ok (.sipush 17280, 3) := by decide +kernel
theorem dX13_init_1101 : decode cX13_init 1101 = .ok (.newarray .int, 2) := by decide +kernel
theorem dX13_init_1103 : decode cX13_init 1103 = .ok (.putfield 1297, 3) := by decide +kernel
theorem dX13_init_1106 : decode cX13_init 1106 = .ok (.aload_n 0, 1) := by decide +kernel
theorem dX13_init_1107 : decode cX13_init 1107 = .ok (.sipush 17280, 3) := by decide +kernel
theorem dX13_init_1110 : decode cX13_init 1110 = .ok (.newarray .int, 2) := by decide +kernel
theorem dX13_init_1112 : decode cX13_init 1112 = .ok (.putfield 1303, 3) := by decide +kernel
theorem dX13_init_1115 : decode cX13_init 1115 = .ok (.aload_n 0, 1) := by decide +kernel
theorem dX13_init_1116 : decode cX13_init 1116 = .ok (.sipush 17280, 3) := by decide +kernel
theorem dX13_init_1119 : decode cX13_init 1119 = .ok (.newarray .int, 2) := by decide +kernel
theorem dX13_init_1121 : decode cX13_init 1121 = .ok (.putfield 1328, 3) := by decide +kernel
theorem dX13_init_1124 : decode cX13_init 1124 = .ok (.aload_n 0, 1) := by decide +kernel
theorem dX13_init_1125 : decode cX13_init 1125 = .ok (.sipush 17280, 3) := by decide +kernel
theorem dX13_init_1128 : decode cX13_init 1128 = .ok (.newarray .int, 2) := by decide +kernel
theorem dX13_init_1130 : decode cX13_init 1130 = .ok (.putfield 1306, 3) := by decide +kernel
theorem dX13_init_1133 : decode cX13_init 1133 = .ok (.aload_n 0, 1) := by decide +kernel
theorem dX13_init_1134 : decode cX13_init 1134 = .ok (.sipush 17280, 3) := by decide +kernel
theorem dX13_init_1137 : decode cX13_init 1137 = .ok (.newarray .int, 2) := by decide +kernel
theorem dX13_init_1139 : decode cX13_init 1139 = .ok (.putfield 1349, 3) := by decide +kernel
theorem dX13_init_1142 : decode cX13_init 1142 = .ok (.aload_n 0, 1) := by decide +kernel
theorem dX13_init_1143 : decode cX13_init 1143 = .ok (.bipush 100, 2) := by decide +kernel
theorem dX13_init_1145 : decode cX13_init 1145 = .ok (.newarray .int, 2) := by decide +kernel
theorem dX13_init_1147 : decode cX13_init 1147 = .ok (.putfield 1361, 3) := by decide +kernel
theorem dX13_init_1150 : decode cX13_init 1150 = .ok (.aload_n 0, 1) := by decide +kernel
theorem dX13_init_1151 : decode cX13_init 1151 = .ok (.sipush 216, 3) := by decide +kernel
theorem dX13_init_1154 : decode cX13_init 1154 = .ok (.newarray .int, 2) := by decide +kernel
theorem dX13_init_1156 : decode cX13_init 1156 = .ok (.putfield 1245, 3) := by decide +kernel
theorem dX13_init_1159 : decode cX13_init 1159 = .ok (.aload_n 0, 1) := by decide +kernel
theorem dX13_init_1160 : decode cX13_init 1160 = .ok (.sipush 8000, 3) := by decide +kernel
theorem dX13_init_1163 : decode cX13_init 1163 = .ok (.newarray .int, 2) := by decide +kernel
theorem dX13_init_1165 : decode cX13_init 1165 = .ok (.putfield 1239, 3) := by decide +kernel
theorem dX13_init_1168 : decode cX13_init 1168 = .ok (.aload_n 0, 1) := by decide +kernel
theorem dX13_init_1169 : decode cX13_init 1169 = .ok (.sipush 30000, 3) := by decide +kernel
theorem dX13_init_1172 : decode cX13_init 1172 = .ok (.newarray .int, 2) := by decide +kernel
theorem dX13_init_1174 : decode cX13_init 1174 = .ok (.putfield 1379, 3) := by decide +kernel
theorem dX13_init_1177 : decode cX13_init 1177 = .ok (.aload_n 0, 1) := by decide +kernel
theorem dX13_init_1178 : decode cX13_init 1178 = .ok (.sipush 702, 3) := by decide +kernel
theorem dX13_init_1181 : decode cX13_init 1181 = .ok (.newarray .int, 2) := by decide +kernel
theorem dX13_init_1183 : decode cX13_init 1183 = .ok (.putfield 1429, 3) := by decide +kernel
theorem dX13_init_1186 : decode cX13_init 1186 = .ok (.aload_n 0, 1) := by decide +kernel
theorem dX13_init_1187 : decode cX13_init 1187 = .ok (.sipush 702, 3) := by decide +kernel
theorem dX13_init_1190 : decode cX13_init 1190 = .ok (.newarray .int, 2) := by decide +kernel
theorem dX13_init_1192 : decode cX13_init 1192 = .ok (.putfield 1435, 3) := by decide +kernel
theorem dX13_init_1195 : decode cX13_init 1195 = .ok (.aload_n 0, 1) := by decide +kernel
theorem dX13_init_1196 : decode cX13_init 1196 = .ok (.sipush 30000, 3) := by decide +kernel
theorem dX13_init_1199 : decode cX13_init 1199 = .ok (.newarray .int, 2) := by decide +kernel
theorem dX13_init_1201 : decode cX13_init 1201 = .ok (.putfield 1441, 3) := by decide +kernel
theorem dX13_init_1204 : decode cX13_init 1204 = .ok (.aload_n 0, 1) := by decide +kernel
theorem dX13_init_1205 : decode cX13_init 1205 = .ok (.sipush 1800, 3) := by decide +kernel
theorem dX13_init_1208 : decode cX13_init 1208 = .ok (.newarray .int, 2) := by decide +kernel
theorem dX13_init_1210 : decode cX13_init 1210 = .ok (.putfield 1474, 3) := by decide +kernel
theorem dX13_init_1213 : decode cX13_init 1213 = .ok (.aload_n 0, 1) := by decide +kernel
theorem dX13_init_1214 : decode cX13_init 1214 = .ok (.invokevirtual 1487, 3) := by decide +kernel
theorem dX13_init_1217 : decode cX13_init 1217 = .ok (.iconst 0, 1) := by decide +kernel
theorem dX13_init_1218 : decode cX13_init 1218 = .ok (.istore_n 1, 1) := by decide +kernel
theorem dX13_init_1219 : decode cX13_init 1219 = .ok (.iload_n 1, 1) := by decide +kernel
theorem dX13_init_1220 : decode cX13_init 1220 = .ok (.iconst 5, 1) := by decide +kernel
theorem dX13_init_1221 : decode cX13_init 1221 = .ok (.if_icmp .ge 17, 3) := by decide +kernel
theorem dX13_init_1224 : decode cX13_init 1224 = .ok (.aload_n 0, 1) := by decide +kernel
theorem dX13_init_1225 : decode cX13_init 1225 = .ok (.getfield 535, 3) := by decide +kernel
theorem dX13_init_1228 : decode cX13_init 1228 = .ok (.iload_n 1, 1) := by decide +kernel
theorem dX13_init_1229 : decode cX13_init 1229 = .ok (.bipush (-2), 2) := by decide +kernel
theorem dX13_init_1231 : decode cX13_init 1231 = .ok (.iastore, 1) := by decide +kernel
theorem dX13_init_1232 : decode cX13_init 1232 = .ok (.iinc 1 1, 3) := by decide +kernel
theorem dX13_init_1235 : decode cX13_init 1235 = .ok (.goto (-16), 3) := by decide +kernel
theorem dX13_init_1238 : decode cX13_init 1238 = .ok (.aload_n 0, 1) := by decide +kernel
theorem dX13_init_1239 : decode cX13_init 1239 = .ok (.invokevirtual 1490, 3) := by decide +kernel
theorem dX13_init_1242 : decode cX13_init 1242 = .ok (.aload_n 0, 1) := by decide +kernel
theorem dX13_init_1243 : decode cX13_init 1243 = .ok (.invokevirtual 998, 3) := by decide +kernel
theorem dX13_init_1246 : decode cX13_init 1246 = .ok (.aload_n 0, 1) := by decide +kernel
theorem dX13_init_1247 : decode cX13_init 1247 = .ok (.bipush (-2), 2) := by decide +kernel
theorem dX13_init_1249 : decode cX13_init 1249 = .ok (.putfield 1171, 3) := by decide +kernel
theorem dX13_init_1252 : decode cX13_init 1252 = .ok (.return_, 1) := by decide +kernel
theorem dJ9_max_7cf53_0 : decode cJ9_max_7cf53 0 = .ok (.iload_n 0, 1) := by decide +kernel
theorem dJ9_max_7cf53_1 : decode cJ9_max_7cf53 1 = .ok (.iload_n 1, 1) := by decide +kernel
theorem dJ9_max_7cf53_2 : decode cJ9_max_7cf53 2 = .ok (.if_icmp .lt 7, 3) := by decide +kernel
theorem dJ9_max_7cf53_9 : decode cJ9_max_7cf53 9 = .ok (.iload_n 1, 1) := by decide +kernel
theorem dJ9_max_7cf53_10 : decode cJ9_max_7cf53 10 = .ok (.ireturn, 1) := by decide +kernel
theorem dJ9_min_7cf53_0 : decode cJ9_min_7cf53 0 = .ok (.iload_n 0, 1) := by decide +kernel
theorem dJ9_min_7cf53_1 : decode cJ9_min_7cf53 1 = .ok (.iload_n 1, 1) := by decide +kernel
theorem dJ9_min_7cf53_2 : decode cJ9_min_7cf53 2 = .ok (.if_icmp .gt 7, 3) := by decide +kernel
theorem dJ9_min_7cf53_5 : decode cJ9_min_7cf53 5 = .ok (.iload_n 0, 1) := by decide +kernel
theorem dJ9_min_7cf53_6 : decode cJ9_min_7cf53 6 = .ok (.goto 4, 3) := by decide +kernel
theorem dJ9_min_7cf53_10 : decode cJ9_min_7cf53 10 = .ok (.ireturn, 1) := by decide +kernel
theorem dJ0_length_8abf5_0 : decode cJ0_length_8abf5 0 = .ok (.aload_n 0, 1) := by decide +kernel
theorem dJ0_length_8abf5_1 : decode cJ0_length_8abf5 1 = .ok (.getfield 9, 3) := by decide +kernel
theorem dJ0_length_8abf5_4 : decode cJ0_length_8abf5 4 = .ok (.arraylength, 1) := by decide +kernel
theorem dJ0_length_8abf5_5 : decode cJ0_length_8abf5 5 = .ok (.aload_n 0, 1) := by decide +kernel
theorem dJ0_length_8abf5_6 : decode cJ0_length_8abf5 6 = .ok (.invokevirtual 335, 3) := by decide +kernel
theorem dJ0_length_8abf5_9 : decode cJ0_length_8abf5 9 = .ok (.ishr, 1) := by decide +kernel
theorem dJ0_length_8abf5_10 : decode cJ0_length_8abf5 10 = .ok (.ireturn, 1) := by decide +kernel
theorem dJ0_charAt_5068e_0 : decode cJ0_charAt_5068e 0 = .ok (.aload_n 0, 1) := by decide +kernel
theorem dJ0_charAt_5068e_1 : decode cJ0_charAt_5068e 1 = .ok (.invokevirtual 492, 3) := by decide +kernel
theorem dJ0_charAt_5068e_4 : decode cJ0_charAt_5068e 4 = .ok (.ifCond .eq 12, 3) := by decide +kernel
theorem dJ0_charAt_5068e_7 : decode cJ0_charAt_5068e 7 = .ok (.aload_n 0, 1) := by decide +kernel
theorem dJ0_charAt_5068e_8 : decode cJ0_charAt_5068e 8 = .ok (.getfield 9, 3) := by decide +kernel
theorem dJ0_charAt_5068e_11 : decode cJ0_charAt_5068e 11 = .ok (.iload_n 1, 1) := by decide +kernel
theorem dJ0_charAt_5068e_12 : decode cJ0_charAt_5068e 12 = .ok (.invokestatic 495, 3) := by decide +kernel
theorem dJ0_charAt_5068e_15 : decode cJ0_charAt_5068e 15 = .ok (.ireturn, 1) := by decide +kernel
theorem dJ0_coder_7d493_0 : decode cJ0_coder_7d493 0 = .ok (.getstatic 38, 3) := by decide +kernel
theorem dJ0_coder_7d493_3 : decode cJ0_coder_7d493 3 = .ok (.ifCond .eq 10, 3) := by decide +kernel
theorem dJ0_coder_7d493_6 : decode cJ0_coder_7d493 6 = .ok (.aload_n 0, 1) := by decide +kernel
theorem dJ0_coder_7d493_7 : decode cJ0_coder_7d493 7 = .ok (.getfield 15, 3) := by decide +kernel
theorem dJ0_coder_7d493_10 : decode cJ0_coder_7d493 10 = .ok (.goto 4, 3) := by decide +kernel
theorem dJ0_coder_7d493_14 : decode cJ0_coder_7d493 14 = .ok (.ireturn, 1) := by decide +kernel
theorem dJ0_isLatin1_aae02_0 : decode cJ0_isLatin1_aae02 0 = .ok (.getstatic 38, 3) := by decide +kernel
theorem dJ0_isLatin1_aae02_3 : decode cJ0_isLatin1_aae02 3 = .ok (.ifCond .eq 14, 3) := by decide +kernel
theorem dJ0_isLatin1_aae02_6 : decode cJ0_isLatin1_aae02 6 = .ok (.aload_n 0, 1) := by decide +kernel
theorem dJ0_isLatin1_aae02_7 : decode cJ0_isLatin1_aae02 7 = .ok (.getfield 15, 3) := by decide +kernel
theorem dJ0_isLatin1_aae02_10 : decode cJ0_isLatin1_aae02 10 = .ok (.ifCond .ne 7, 3) := by decide +kernel
theorem dJ0_isLatin1_aae02_13 : decode cJ0_isLatin1_aae02 13 = .ok (.iconst 1, 1) := by decide +kernel
theorem dJ0_isLatin1_aae02_14 : decode cJ0_isLatin1_aae02 14 = .ok (.goto 4, 3) := by decide +kernel
theorem dJ0_isLatin1_aae02_18 : decode cJ0_isLatin1_aae02 18 = .ok (.ireturn, 1) := by decide +kernel
theorem dJ0_checkIndex_df160_0 : decode cJ0_checkIndex_df160 0 = .ok (.iload_n 0, 1) := by decide +kernel
theorem dJ0_checkIndex_df160_1 : decode cJ0_checkIndex_df160 1 = .ok (.iload_n 1, 1) := by decide +kernel
theorem dJ0_checkIndex_df160_2 : decode cJ0_checkIndex_df160 2 = .ok (.getstatic 1053, 3) := by decide +kernel
theorem dJ0_checkIndex_df160_5 : decode cJ0_checkIndex_df160 5 = .ok (.invokestatic 1059, 3) := by decide +kernel
theorem dJ0_checkIndex_df160_8 : decode cJ0_checkIndex_df160 8 = .ok (.pop, 1) := by decide +kernel
theorem dJ0_checkIndex_df160_9 : decode cJ0_checkIndex_df160 9 = .ok (.return_, 1) := by decide +kernel
theorem dJ1_charAt_3b067_0 : decode cJ1_charAt_3b067 0 = .ok (.iload_n 1, 1) := by decide +kernel
theorem dJ1_charAt_3b067_1 : decode cJ1_charAt_3b067 1 = .ok (.aload_n 0, 1) := by decide +kernel
theorem dJ1_charAt_3b067_2 : decode cJ1_charAt_3b067 2 = .ok (.arraylength, 1) := by decide +kernel
theorem dJ1_charAt_3b067_3 : decode cJ1_charAt_3b067 3 = .ok (.invokestatic 9, 3) := by decide +kernel
theorem dJ1_charAt_3b067_6 : decode cJ1_charAt_3b067 6 = .ok (.aload_n 0, 1) := by decide +kernel
theorem dJ1_charAt_3b067_7 : decode cJ1_charAt_3b067 7 = .ok (.iload_n 1, 1) := by decide +kernel
theorem dJ1_charAt_3b067_8 : decode cJ1_charAt_3b067 8 = .ok (.baload, 1) := by decide +kernel
theorem dJ1_charAt_3b067_9 : decode cJ1_charAt_3b067 9 = .ok (.sipush 255, 3) := by decide +kernel
theorem dJ1_charAt_3b067_12 : decode cJ1_charAt_3b067 12 = .ok (.iand, 1) := by decide +kernel
theorem dJ1_charAt_3b067_13 : decode cJ1_charAt_3b067 13 = .ok (.i2c, 1) := by decide +kernel
theorem dJ1_charAt_3b067_14 : decode cJ1_charAt_3b067 14 = .ok (.ireturn, 1) := by decide +kernel
theorem dJ7_fill_d0a16_0 : decode cJ7_fill_d0a16 0 = .ok (.iconst 0, 1) := by decide +kernel
theorem dJ7_fill_d0a16_1 : decode cJ7_fill_d0a16 1 = .ok (.istore_n 3, 1) := by decide +kernel
theorem dJ7_fill_d0a16_2 : decode cJ7_fill_d0a16 2 = .ok (.aload_n 0, 1) := by decide +kernel
theorem dJ7_fill_d0a16_3 : decode cJ7_fill_d0a16 3 = .ok (.arraylength, 1) := by decide +kernel
theorem dJ7_fill_d0a16_4 : decode cJ7_fill_d0a16 4 = .ok (.istore 4, 2) := by decide +kernel
theorem dJ7_fill_d0a16_6 : decode cJ7_fill_d0a16 6 = .ok (.iload_n 3, 1) := by decide +kernel
theorem dJ7_fill_d0a16_7 : decode cJ7_fill_d0a16 7 = .ok (.iload 4, 2) := by decide +kernel
theorem dJ7_fill_d0a16_9 : decode cJ7_fill_d0a16 9 = .ok (.if_icmp .ge 13, 3) := by decide +kernel
theorem dJ7_fill_d0a16_12 : decode cJ7_fill_d0a16 12 = .ok (.aload_n 0, 1) := by decide +kernel
theorem dJ7_fill_d0a16_13 : decode cJ7_fill_d0a16 13 = .ok (.iload_n 3, 1) := by decide +kernel
theorem dJ7_fill_d0a16_14 : decode cJ7_fill_d0a16 14 = .ok (.lload_n 1, 1) := by decide +kernel
theorem dJ7_fill_d0a16_15 : decode cJ7_fill_d0a16 15 = .ok (.lastore, 1) := by decide +kernel
theorem dJ7_fill_d0a16_16 : decode cJ7_fill_d0a16 16 = .ok (.iinc 3 1, 3) := by decide +kernel
theorem dJ7_fill_d0a16_19 : decode cJ7_fill_d0a16 19 = .ok (.goto (-13), 3) := by decide +kernel
theorem dJ7_fill_d0a16_22 : decode cJ7_fill_d0a16 22 = .ok (.return_, 1) := by decide +kernel
theorem dJ7_fill_53178_0 : decode cJ7_fill_53178 0 = .ok (.iconst 0, 1) := by decide +kernel
theorem dJ7_fill_53178_1 : decode cJ7_fill_53178 1 = .ok (.istore_n 2, 1) := by decide +kernel
theorem dJ7_fill_53178_2 : decode cJ7_fill_53178 2 = .ok (.aload_n 0, 1) := by decide +kernel
theorem dJ7_fill_53178_3 : decode cJ7_fill_53178 3 = .ok (.arraylength, 1) := by decide +kernel
theorem dJ7_fill_53178_4 : decode cJ7_fill_53178 4 = .ok (.istore_n 3, 1) := by decide +kernel
theorem dJ7_fill_53178_5 : decode cJ7_fill_53178 5 = .ok (.iload_n 2, 1) := by decide +kernel
theorem dJ7_fill_53178_6 : decode cJ7_fill_53178 6 = .ok (.iload_n 3, 1) := by decide +kernel
theorem dJ7_fill_53178_7 : decode cJ7_fill_53178 7 = .ok (.if_icmp .ge 13, 3) := by decide +kernel
theorem dJ7_fill_53178_10 : decode cJ7_fill_53178 10 = .ok (.aload_n 0, 1) := by decide +kernel
theorem dJ7_fill_53178_11 : decode cJ7_fill_53178 11 = .ok (.iload_n 2, 1) := by decide +kernel
theorem dJ7_fill_53178_12 : decode cJ7_fill_53178 12 = .ok (.iload_n 1, 1) := by decide +kernel
theorem dJ7_fill_53178_13 : decode cJ7_fill_53178 13 = .ok (.iastore, 1) := by decide +kernel
theorem dJ7_fill_53178_14 : decode cJ7_fill_53178 14 = .ok (.iinc 2 1, 3) := by decide +kernel
theorem dJ7_fill_53178_17 : decode cJ7_fill_53178 17 = .ok (.goto (-12), 3) := by decide +kernel
theorem dJ7_fill_53178_20 : decode cJ7_fill_53178 20 = .ok (.return_, 1) := by decide +kernel
theorem dJ3_checkIndex_8e157_0 : decode cJ3_checkIndex_8e157 0 = .ok (.iload_n 0, 1) := by decide +kernel
theorem dJ3_checkIndex_8e157_1 : decode cJ3_checkIndex_8e157 1 = .ok (.ifCond .lt 8, 3) := by decide +kernel
theorem dJ3_checkIndex_8e157_4 : decode cJ3_checkIndex_8e157 4 = .ok (.iload_n 0, 1) := by decide +kernel
theorem dJ3_checkIndex_8e157_5 : decode cJ3_checkIndex_8e157 5 = .ok (.iload_n 1, 1) := by decide +kernel
theorem dJ3_checkIndex_8e157_6 : decode cJ3_checkIndex_8e157 6 = .ok (.if_icmp .lt 10, 3) := by decide +kernel
theorem dJ3_checkIndex_8e157_16 : decode cJ3_checkIndex_8e157 16 = .ok (.iload_n 0, 1) := by decide +kernel
theorem dJ3_checkIndex_8e157_17 : decode cJ3_checkIndex_8e157 17 = .ok (.ireturn, 1) := by decide +kernel
theorem dL_law_0 : decode cL_law 0 = .ok (.new 7, 3) := by decide +kernel
theorem dL_law_3 : decode cL_law 3 = .ok (.dup, 1) := by decide +kernel
theorem dL_law_4 : decode cL_law 4 = .ok (.invokespecial 9, 3) := by decide +kernel
theorem dL_law_7 : decode cL_law 7 = .ok (.astore_n 1, 1) := by decide +kernel
theorem dL_law_8 : decode cL_law 8 = .ok (.new 10, 3) := by decide +kernel
theorem dL_law_11 : decode cL_law 11 = .ok (.dup, 1) := by decide +kernel
theorem dL_law_12 : decode cL_law 12 = .ok (.invokespecial 12, 3) := by decide +kernel
theorem dL_law_15 : decode cL_law 15 = .ok (.astore_n 2, 1) := by decide +kernel
theorem dL_law_16 : decode cL_law 16 = .ok (.iconst 0, 1) := by decide +kernel
theorem dL_law_17 : decode cL_law 17 = .ok (.istore_n 3, 1) := by decide +kernel
theorem dL_law_18 : decode cL_law 18 = .ok (.iload_n 3, 1) := by decide +kernel
theorem dL_law_19 : decode cL_law 19 = .ok (.aload_n 0, 1) := by decide +kernel
theorem dL_law_20 : decode cL_law 20 = .ok (.arraylength, 1) := by decide +kernel
theorem dL_law_21 : decode cL_law 21 = .ok (.bipush 6, 2) := by decide +kernel
theorem dL_law_23 : decode cL_law 23 = .ok (.isub, 1) := by decide +kernel
theorem dL_law_24 : decode cL_law 24 = .ok (.if_icmp .gt 1323, 3) := by decide +kernel
theorem dL_law_27 : decode cL_law 27 = .ok (.aload_n 0, 1) := by decide +kernel
theorem dL_law_28 : decode cL_law 28 = .ok (.iload_n 3, 1) := by decide +kernel
theorem dL_law_29 : decode cL_law 29 = .ok (.iaload, 1) := by decide +kernel
theorem dL_law_30 : decode cL_law 30 = .ok (.bipush 63, 2) := by decide +kernel
theorem dL_law_32 : decode cL_law 32 = .ok (.iand, 1) := by decide +kernel
theorem dL_law_33 : decode cL_law 33 = .ok (.tableswitch 1308 0 38 #[171, 234, 257, 300, 333, 346, 369, 392, 405, 428, 461, 484, 517, 560, 613, 646, 699, 742, 785, 798, 821, 834, 867, 880, 893, 936, 969, 1012, 1055, 1068, 1111, 1124, 1137, 1160, 1183, 1206, 1229, 1252, 1275], 171) := by decide +kernel
theorem dL_law_204 : decode cL_law 204 = .ok (.aload_n 1, 1) := by decide +kernel
theorem dL_law_205 : decode cL_law 205 = .ok (.aload_n 0, 1) := by decide +kernel
theorem dL_law_206 : decode cL_law 206 = .ok (.iload_n 3, 1) := by decide +kernel
theorem dL_law_207 : decode cL_law 207 = .ok (.iconst 1, 1) := by decide +kernel
theorem dL_law_208 : decode cL_law 208 = .ok (.iadd, 1) := by decide +kernel
theorem dL_law_209 : decode cL_law 209 = .ok (.iaload, 1) := by decide +kernel
theorem dL_law_210 : decode cL_law 210 = .ok (.aload_n 0, 1) := by decide +kernel
theorem dL_law_211 : decode cL_law 211 = .ok (.iload_n 3, 1) := by decide +kernel
theorem dL_law_212 : decode cL_law 212 = .ok (.iconst 2, 1) := by decide +kernel
theorem dL_law_213 : decode cL_law 213 = .ok (.iadd, 1) := by decide +kernel
theorem dL_law_214 : decode cL_law 214 = .ok (.iaload, 1) := by decide +kernel
theorem dL_law_215 : decode cL_law 215 = .ok (.aload_n 0, 1) := by decide +kernel
theorem dL_law_216 : decode cL_law 216 = .ok (.iload_n 3, 1) := by decide +kernel
theorem dL_law_217 : decode cL_law 217 = .ok (.iconst 3, 1) := by decide +kernel
theorem dL_law_218 : decode cL_law 218 = .ok (.iadd, 1) := by decide +kernel
theorem dL_law_219 : decode cL_law 219 = .ok (.iaload, 1) := by decide +kernel
theorem dL_law_220 : decode cL_law 220 = .ok (.aload_n 0, 1) := by decide +kernel
theorem dL_law_221 : decode cL_law 221 = .ok (.iload_n 3, 1) := by decide +kernel
theorem dL_law_222 : decode cL_law 222 = .ok (.iconst 4, 1) := by decide +kernel
theorem dL_law_223 : decode cL_law 223 = .ok (.iadd, 1) := by decide +kernel
theorem dL_law_224 : decode cL_law 224 = .ok (.iaload, 1) := by decide +kernel
theorem dL_law_225 : decode cL_law 225 = .ok (.aload_n 0, 1) := by decide +kernel
theorem dL_law_226 : decode cL_law 226 = .ok (.iload_n 3, 1) := by decide +kernel
theorem dL_law_227 : decode cL_law 227 = .ok (.iconst 5, 1) := by decide +kernel
theorem dL_law_228 : decode cL_law 228 = .ok (.iadd, 1) := by decide +kernel
theorem dL_law_229 : decode cL_law 229 = .ok (.iaload, 1) := by decide +kernel
theorem dL_law_230 : decode cL_law 230 = .ok (.invokevirtual 13, 3) := by decide +kernel
theorem dL_law_233 : decode cL_law 233 = .ok (.aload_n 2, 1) := by decide +kernel
theorem dL_law_234 : decode cL_law 234 = .ok (.aload_n 0, 1) := by decide +kernel
theorem dL_law_235 : decode cL_law 235 = .ok (.iload_n 3, 1) := by decide +kernel
theorem dL_law_236 : decode cL_law 236 = .ok (.iconst 1, 1) := by decide +kernel
theorem dL_law_237 : decode cL_law 237 = .ok (.iadd, 1) := by decide +kernel
theorem dL_law_238 : decode cL_law 238 = .ok (.iaload, 1) := by decide +kernel
theorem dL_law_239 : decode cL_law 239 = .ok (.aload_n 0, 1) := by decide +kernel
theorem dL_law_240 : decode cL_law 240 = .ok (.iload_n 3, 1) := by decide +kernel
theorem dL_law_241 : decode cL_law 241 = .ok (.iconst 2, 1) := by decide +kernel
theorem dL_law_242 : decode cL_law 242 = .ok (.iadd, 1) := by decide +kernel
theorem dL_law_243 : decode cL_law 243 = .ok (.iaload, 1) := by decide +kernel
theorem dL_law_244 : decode cL_law 244 = .ok (.aload_n 0, 1) := by decide +kernel
theorem dL_law_245 : decode cL_law 245 = .ok (.iload_n 3, 1) := by decide +kernel
theorem dL_law_246 : decode cL_law 246 = .ok (.iconst 3, 1) := by decide +kernel
theorem dL_law_247 : decode cL_law 247 = .ok (.iadd, 1) := by decide +kernel
theorem dL_law_248 : decode cL_law 248 = .ok (.iaload, 1) := by decide +kernel
theorem dL_law_249 : decode cL_law 249 = .ok (.aload_n 0, 1) := by decide +kernel
theorem dL_law_250 : decode cL_law 250 = .ok (.iload_n 3, 1) := by decide +kernel
theorem dL_law_251 : decode cL_law 251 = .ok (.iconst 4, 1) := by decide +kernel
theorem dL_law_252 : decode cL_law 252 = .ok (.iadd, 1) := by decide +kernel
theorem dL_law_253 : decode cL_law 253 = .ok (.iaload, 1) := by decide +kernel
theorem dL_law_254 : decode cL_law 254 = .ok (.aload_n 0, 1) := by decide +kernel
theorem dL_law_255 : decode cL_law 255 = .ok (.iload_n 3, 1) := by decide +kernel
theorem dL_law_256 : decode cL_law 256 = .ok (.iconst 5, 1) := by decide +kernel
theorem dL_law_257 : decode cL_law 257 = .ok (.iadd, 1) := by decide +kernel
theorem dL_law_258 : decode cL_law 258 = .ok (.iaload, 1) := by decide +kernel
theorem dL_law_259 : decode cL_law 259 = .ok (.invokevirtual 17, 3) := by decide +kernel
theorem dL_law_262 : decode cL_law 262 = .ok (.if_icmp .eq 1079, 3) := by decide +kernel
theorem dL_law_267 : decode cL_law 267 = .ok (.aload_n 1, 1) := by decide +kernel
theorem dL_law_268 : decode cL_law 268 = .ok (.aload_n 0, 1) := by decide +kernel
theorem dL_law_269 : decode cL_law 269 = .ok (.iload_n 3, 1) := by decide +kernel
theorem dL_law_270 : decode cL_law 270 = .ok (.iconst 1, 1) := by decide +kernel
theorem dL_law_271 : decode cL_law 271 = .ok (.iadd, 1) := by decide +kernel
theorem dL_law_272 : decode cL_law 272 = .ok (.iaload, 1) := by decide +kernel
theorem dL_law_273 : decode cL_law 273 = .ok (.invokevirtual 18, 3) := by decide +kernel
theorem dL_law_276 : decode cL_law 276 = .ok (.aload_n 2, 1) := by decide +kernel
theorem dL_law_277 : decode cL_law 277 = .ok (.aload_n 0, 1) := by decide +kernel
theorem dL_law_278 : decode cL_law 278 = .ok (.iload_n 3, 1) := by decide +kernel
theorem dL_law_279 : decode cL_law 279 = .ok (.iconst 1, 1) := by decide +kernel
theorem dL_law_280 : decode cL_law 280 = .ok (.iadd, 1) := by decide +kernel
theorem dL_law_281 : decode cL_law 281 = .ok (.iaload, 1) := by decide +kernel
theorem dL_law_282 : decode cL_law 282 = .ok (.invokevirtual 22, 3) := by decide +kernel
theorem dL_law_285 : decode cL_law 285 = .ok (.if_icmp .eq 1056, 3) := by decide +kernel
theorem dL_law_290 : decode cL_law 290 = .ok (.aload_n 1, 1) := by decide +kernel
theorem dL_law_291 : decode cL_law 291 = .ok (.aload_n 0, 1) := by decide +kernel
theorem dL_law_292 : decode cL_law 292 = .ok (.iload_n 3, 1) := by decide +kernel
theorem dL_law_293 : decode cL_law 293 = .ok (.iconst 1, 1) := by decide +kernel
theorem dL_law_294 : decode cL_law 294 = .ok (.iadd, 1) := by decide +kernel
theorem dL_law_295 : decode cL_law 295 = .ok (.iaload, 1) := by decide +kernel
theorem dL_law_296 : decode cL_law 296 = .ok (.aload_n 0, 1) := by decide +kernel
theorem dL_law_297 : decode cL_law 297 = .ok (.iload_n 3, 1) := by decide +kernel
theorem dL_law_298 : decode cL_law 298 = .ok (.iconst 2, 1) := by decide +kernel
theorem dL_law_299 : decode cL_law 299 = .ok (.iadd, 1) := by decide +kernel
theorem dL_law_300 : decode cL_law 300 = .ok (.iaload, 1) := by decide +kernel
theorem dL_law_301 : decode cL_law 301 = .ok (.aload_n 0, 1) := by decide +kernel
theorem dL_law_302 : decode cL_law 302 = .ok (.iload_n 3, 1) := by decide +kernel
theorem dL_law_303 : decode cL_law 303 = .ok (.iconst 3, 1) := by decide +kernel
theorem dL_law_304 : decode cL_law 304 = .ok (.iadd, 1) := by decide +kernel
theorem dL_law_305 : decode cL_law 305 = .ok (.iaload, 1) := by decide +kernel
theorem dL_law_306 : decode cL_law 306 = .ok (.invokevirtual 23, 3) := by decide +kernel
theorem dL_law_309 : decode cL_law 309 = .ok (.aload_n 2, 1) := by decide +kernel
theorem dL_law_310 : decode cL_law 310 = .ok (.aload_n 0, 1) := by decide +kernel
theorem dL_law_311 : decode cL_law 311 = .ok (.iload_n 3, 1) := by decide +kernel
theorem dL_law_312 : decode cL_law 312 = .ok (.iconst 1, 1) := by decide +kernel
theorem dL_law_313 : decode cL_law 313 = .ok (.iadd, 1) := by decide +kernel
theorem dL_law_314 : decode cL_law 314 = .ok (.iaload, 1) := by decide +kernel
theorem dL_law_315 : decode cL_law 315 = .ok (.aload_n 0, 1) := by decide +kernel
theorem dL_law_316 : decode cL_law 316 = .ok (.iload_n 3, 1) := by decide +kernel
theorem dL_law_317 : decode cL_law 317 = .ok (.iconst 2, 1) := by decide +kernel
theorem dL_law_318 : decode cL_law 318 = .ok (.iadd, 1) := by decide +kernel
theorem dL_law_319 : decode cL_law 319 = .ok (.iaload, 1) := by decide +kernel
theorem dL_law_320 : decode cL_law 320 = .ok (.aload_n 0, 1) := by decide +kernel
theorem dL_law_321 : decode cL_law 321 = .ok (.iload_n 3, 1) := by decide +kernel
theorem dL_law_322 : decode cL_law 322 = .ok (.iconst 3, 1) := by decide +kernel
theorem dL_law_323 : decode cL_law 323 = .ok (.iadd, 1) := by decide +kernel
theorem dL_law_324 : decode cL_law 324 = .ok (.iaload, 1) := by decide +kernel
theorem dL_law_325 : decode cL_law 325 = .ok (.invokevirtual 27, 3) := by decide +kernel
theorem dL_law_328 : decode cL_law 328 = .ok (.if_icmp .eq 1013, 3) := by decide +kernel
theorem dL_law_333 : decode cL_law 333 = .ok (.aload_n 1, 1) := by decide +kernel
theorem dL_law_334 : decode cL_law 334 = .ok (.aload_n 0, 1) := by decide +kernel
theorem dL_law_335 : decode cL_law 335 = .ok (.iload_n 3, 1) := by decide +kernel
theorem dL_law_336 : decode cL_law 336 = .ok (.iconst 1, 1) := by decide +kernel
theorem dL_law_337 : decode cL_law 337 = .ok (.iadd, 1) := by decide +kernel
theorem dL_law_338 : decode cL_law 338 = .ok (.iaload, 1) := by decide +kernel
theorem dL_law_339 : decode cL_law 339 = .ok (.aload_n 0, 1) := by decide +kernel
theorem dL_law_340 : decode cL_law 340 = .ok (.iload_n 3, 1) := by decide +kernel
theorem dL_law_341 : decode cL_law 341 = .ok (.iconst 2, 1) := by decide +kernel
theorem dL_law_342 : decode cL_law 342 = .ok (.iadd, 1) := by decide +kernel
theorem dL_law_343 : decode cL_law 343 = .ok (.iaload, 1) := by decide +kernel
theorem dL_law_344 : decode cL_law 344 = .ok (.invokevirtual 28, 3) := by decide +kernel
theorem dL_law_347 : decode cL_law 347 = .ok (.aload_n 2, 1) := by decide +kernel
theorem dL_law_348 : decode cL_law 348 = .ok (.aload_n 0, 1) := by decide +kernel
theorem dL_law_349 : decode cL_law 349 = .ok (.iload_n 3, 1) := by decide +kernel
theorem dL_law_350 : decode cL_law 350 = .ok (.iconst 1, 1) := by decide +kernel
theorem dL_law_351 : decode cL_law 351 = .ok (.iadd, 1) := by decide +kernel
theorem dL_law_352 : decode cL_law 352 = .ok (.iaload, 1) := by decide +kernel
theorem dL_law_353 : decode cL_law 353 = .ok (.aload_n 0, 1) := by decide +kernel
theorem dL_law_354 : decode cL_law 354 = .ok (.iload_n 3, 1) := by decide +kernel
theorem dL_law_355 : decode cL_law 355 = .ok (.iconst 2, 1) := by decide +kernel
theorem dL_law_356 : decode cL_law 356 = .ok (.iadd, 1) := by decide +kernel
theorem dL_law_357 : decode cL_law 357 = .ok (.iaload, 1) := by decide +kernel
theorem dL_law_358 : decode cL_law 358 = .ok (.invokevirtual 32, 3) := by decide +kernel
theorem dL_law_361 : decode cL_law 361 = .ok (.if_icmp .eq 980, 3) := by decide +kernel
theorem dL_law_366 : decode cL_law 366 = .ok (.aload_n 1, 1) := by decide +kernel
theorem dL_law_367 : decode cL_law 367 = .ok (.invokevirtual 33, 3) := by decide +kernel
theorem dL_law_370 : decode cL_law 370 = .ok (.aload_n 2, 1) := by decide +kernel
theorem dL_law_371 : decode cL_law 371 = .ok (.invokevirtual 37, 3) := by decide +kernel
theorem dL_law_374 : decode cL_law 374 = .ok (.if_icmp .eq 967, 3) := by decide +kernel
theorem dL_law_379 : decode cL_law 379 = .ok (.aload_n 1, 1) := by decide +kernel
theorem dL_law_380 : decode cL_law 380 = .ok (.aload_n 0, 1) := by decide +kernel
theorem dL_law_381 : decode cL_law 381 = .ok (.iload_n 3, 1) := by decide +kernel
theorem dL_law_382 : decode cL_law 382 = .ok (.iconst 1, 1) := by decide +kernel
theorem dL_law_383 : decode cL_law 383 = .ok (.iadd, 1) := by decide +kernel
theorem dL_law_384 : decode cL_law 384 = .ok (.iaload, 1) := by decide +kernel
theorem dL_law_385 : decode cL_law 385 = .ok (.invokevirtual 38, 3) := by decide +kernel
theorem dL_law_388 : decode cL_law 388 = .ok (.aload_n 2, 1) := by decide +kernel
theorem dL_law_389 : decode cL_law 389 = .ok (.aload_n 0, 1) := by decide +kernel
theorem dL_law_390 : decode cL_law 390 = .ok (.iload_n 3, 1) := by decide +kernel
theorem dL_law_391 : decode cL_law 391 = .ok (.iconst 1, 1) := by decide +kernel
theorem dL_law_392 : decode cL_law 392 = .ok (.iadd, 1) := by decide +kernel
theorem dL_law_393 : decode cL_law 393 = .ok (.iaload, 1) := by decide +kernel
theorem dL_law_394 : decode cL_law 394 = .ok (.invokevirtual 41, 3) := by decide +kernel
theorem dL_law_397 : decode cL_law 397 = .ok (.if_icmp .eq 944, 3) := by decide +kernel
theorem dL_law_402 : decode cL_law 402 = .ok (.aload_n 1, 1) := by decide +kernel
theorem dL_law_403 : decode cL_law 403 = .ok (.aload_n 0, 1) := by decide +kernel
theorem dL_law_404 : decode cL_law 404 = .ok (.iload_n 3, 1) := by decide +kernel
theorem dL_law_405 : decode cL_law 405 = .ok (.iconst 1, 1) := by decide +kernel
theorem dL_law_406 : decode cL_law 406 = .ok (.iadd, 1) := by decide +kernel
theorem dL_law_407 : decode cL_law 407 = .ok (.iaload, 1) := by decide +kernel
theorem dL_law_408 : decode cL_law 408 = .ok (.invokevirtual 42, 3) := by decide +kernel
theorem dL_law_411 : decode cL_law 411 = .ok (.aload_n 2, 1) := by decide +kernel
theorem dL_law_412 : decode cL_law 412 = .ok (.aload_n 0, 1) := by decide +kernel
theorem dL_law_413 : decode cL_law 413 = .ok (.iload_n 3, 1) := by decide +kernel
theorem dL_law_414 : decode cL_law 414 = .ok (.iconst 1, 1) := by decide +kernel
theorem dL_law_415 : decode cL_law 415 = .ok (.iadd, 1) := by decide +kernel
theorem dL_law_416 : decode cL_law 416 = .ok (.iaload, 1) := by decide +kernel
theorem dL_law_417 : decode cL_law 417 = .ok (.invokevirtual 45, 3) := by decide +kernel
theorem dL_law_420 : decode cL_law 420 = .ok (.if_icmp .eq 921, 3) := by decide +kernel
theorem dL_law_425 : decode cL_law 425 = .ok (.aload_n 1, 1) := by decide +kernel
theorem dL_law_426 : decode cL_law 426 = .ok (.invokevirtual 46, 3) := by decide +kernel
theorem dL_law_429 : decode cL_law 429 = .ok (.aload_n 2, 1) := by decide +kernel
theorem dL_law_430 : decode cL_law 430 = .ok (.invokevirtual 49, 3) := by decide +kernel
theorem dL_law_433 : decode cL_law 433 = .ok (.if_icmp .eq 908, 3) := by decide +kernel
theorem dL_law_438 : decode cL_law 438 = .ok (.aload_n 1, 1) := by decide +kernel
theorem dL_law_439 : decode cL_law 439 = .ok (.aload_n 0, 1) := by decide +kernel
theorem dL_law_440 : decode cL_law 440 = .ok (.iload_n 3, 1) := by decide +kernel
theorem dL_law_441 : decode cL_law 441 = .ok (.iconst 1, 1) := by decide +kernel
theorem dL_law_442 : decode cL_law 442 = .ok (.iadd, 1) := by decide +kernel
theorem dL_law_443 : decode cL_law 443 = .ok (.iaload, 1) := by decide +kernel
theorem dL_law_444 : decode cL_law 444 = .ok (.invokevirtual 50, 3) := by decide +kernel
theorem dL_law_447 : decode cL_law 447 = .ok (.aload_n 2, 1) := by decide +kernel
theorem dL_law_448 : decode cL_law 448 = .ok (.aload_n 0, 1) := by decide +kernel
theorem dL_law_449 : decode cL_law 449 = .ok (.iload_n 3, 1) := by decide +kernel
theorem dL_law_450 : decode cL_law 450 = .ok (.iconst 1, 1) := by decide +kernel
theorem dL_law_451 : decode cL_law 451 = .ok (.iadd, 1) := by decide +kernel
theorem dL_law_452 : decode cL_law 452 = .ok (.iaload, 1) := by decide +kernel
theorem dL_law_453 : decode cL_law 453 = .ok (.invokevirtual 53, 3) := by decide +kernel
theorem dL_law_456 : decode cL_law 456 = .ok (.if_icmp .eq 885, 3) := by decide +kernel
theorem dL_law_461 : decode cL_law 461 = .ok (.aload_n 1, 1) := by decide +kernel
theorem dL_law_462 : decode cL_law 462 = .ok (.aload_n 0, 1) := by decide +kernel
theorem dL_law_463 : decode cL_law 463 = .ok (.iload_n 3, 1) := by decide +kernel
theorem dL_law_464 : decode cL_law 464 = .ok (.iconst 1, 1) := by decide +kernel
theorem dL_law_465 : decode cL_law 465 = .ok (.iadd, 1) := by decide +kernel
theorem dL_law_466 : decode cL_law 466 = .ok (.iaload, 1) := by decide +kernel
theorem dL_law_467 : decode cL_law 467 = .ok (.aload_n 0, 1) := by decide +kernel
theorem dL_law_468 : decode cL_law 468 = .ok (.iload_n 3, 1) := by decide +kernel
theorem dL_law_469 : decode cL_law 469 = .ok (.iconst 2, 1) := by decide +kernel
theorem dL_law_470 : decode cL_law 470 = .ok (.iadd, 1) := by decide +kernel
theorem dL_law_471 : decode cL_law 471 = .ok (.iaload, 1) := by decide +kernel
theorem dL_law_472 : decode cL_law 472 = .ok (.invokevirtual 54, 3) := by decide +kernel
theorem dL_law_475 : decode cL_law 475 = .ok (.aload_n 2, 1) := by decide +kernel
theorem dL_law_476 : decode cL_law 476 = .ok (.aload_n 0, 1) := by decide +kernel
theorem dL_law_477 : decode cL_law 477 = .ok (.iload_n 3, 1) := by decide +kernel
theorem dL_law_478 : decode cL_law 478 = .ok (.iconst 1, 1) := by decide +kernel
theorem dL_law_479 : decode cL_law 479 = .ok (.iadd, 1) := by decide +kernel
theorem dL_law_480 : decode cL_law 480 = .ok (.iaload, 1) := by decide +kernel
theorem dL_law_481 : decode cL_law 481 = .ok (.aload_n 0, 1) := by decide +kernel
theorem dL_law_482 : decode cL_law 482 = .ok (.iload_n 3, 1) := by decide +kernel
theorem dL_law_483 : decode cL_law 483 = .ok (.iconst 2, 1) := by decide +kernel
theorem dL_law_484 : decode cL_law 484 = .ok (.iadd, 1) := by decide +kernel
theorem dL_law_485 : decode cL_law 485 = .ok (.iaload, 1) := by decide +kernel
theorem dL_law_486 : decode cL_law 486 = .ok (.invokevirtual 57, 3) := by decide +kernel
theorem dL_law_489 : decode cL_law 489 = .ok (.if_icmp .eq 852, 3) := by decide +kernel
theorem dL_law_494 : decode cL_law 494 = .ok (.aload_n 1, 1) := by decide +kernel
theorem dL_law_495 : decode cL_law 495 = .ok (.aload_n 0, 1) := by decide +kernel
theorem dL_law_496 : decode cL_law 496 = .ok (.iload_n 3, 1) := by decide +kernel
theorem dL_law_497 : decode cL_law 497 = .ok (.iconst 1, 1) := by decide +kernel
theorem dL_law_498 : decode cL_law 498 = .ok (.iadd, 1) := by decide +kernel
theorem dL_law_499 : decode cL_law 499 = .ok (.iaload, 1) := by decide +kernel
theorem dL_law_500 : decode cL_law 500 = .ok (.invokevirtual 58, 3) := by decide +kernel
theorem dL_law_503 : decode cL_law 503 = .ok (.aload_n 2, 1) := by decide +kernel
theorem dL_law_504 : decode cL_law 504 = .ok (.aload_n 0, 1) := by decide +kernel
theorem dL_law_505 : decode cL_law 505 = .ok (.iload_n 3, 1) := by decide +kernel
theorem dL_law_506 : decode cL_law 506 = .ok (.iconst 1, 1) := by decide +kernel
theorem dL_law_507 : decode cL_law 507 = .ok (.iadd, 1) := by decide +kernel

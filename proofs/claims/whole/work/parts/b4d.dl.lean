/-! the law, decoded: 632 and on -/
theorem dl_632 : decode code 632 = .ok (.if_icmp .eq 1173, 3) := by decide +kernel
theorem dl_635 : decode code 635 = .ok (.iconst 0, 1) := by decide +kernel
theorem dl_636 : decode code 636 = .ok (.ireturn, 1) := by decide +kernel
theorem dl_637 : decode code 637 = .ok (.aload_n 1, 1) := by decide +kernel
theorem dl_638 : decode code 638 = .ok (.aload_n 0, 1) := by decide +kernel
theorem dl_639 : decode code 639 = .ok (.iload 4, 2) := by decide +kernel
theorem dl_641 : decode code 641 = .ok (.iconst 1, 1) := by decide +kernel
theorem dl_642 : decode code 642 = .ok (.iadd, 1) := by decide +kernel
theorem dl_643 : decode code 643 = .ok (.iaload, 1) := by decide +kernel
theorem dl_644 : decode code 644 = .ok (.aload_n 0, 1) := by decide +kernel
theorem dl_645 : decode code 645 = .ok (.iload 4, 2) := by decide +kernel
theorem dl_647 : decode code 647 = .ok (.iconst 2, 1) := by decide +kernel
theorem dl_648 : decode code 648 = .ok (.iadd, 1) := by decide +kernel
theorem dl_649 : decode code 649 = .ok (.iaload, 1) := by decide +kernel
theorem dl_650 : decode code 650 = .ok (.aload_n 0, 1) := by decide +kernel
theorem dl_651 : decode code 651 = .ok (.iload 4, 2) := by decide +kernel
theorem dl_653 : decode code 653 = .ok (.iconst 3, 1) := by decide +kernel
theorem dl_654 : decode code 654 = .ok (.iadd, 1) := by decide +kernel
theorem dl_655 : decode code 655 = .ok (.iaload, 1) := by decide +kernel
theorem dl_656 : decode code 656 = .ok (.invokevirtual 69, 3) := by decide +kernel
theorem dl_659 : decode code 659 = .ok (.aload_n 2, 1) := by decide +kernel
theorem dl_660 : decode code 660 = .ok (.aload_n 0, 1) := by decide +kernel
theorem dl_661 : decode code 661 = .ok (.iload 4, 2) := by decide +kernel
theorem dl_663 : decode code 663 = .ok (.iconst 1, 1) := by decide +kernel
theorem dl_664 : decode code 664 = .ok (.iadd, 1) := by decide +kernel
theorem dl_665 : decode code 665 = .ok (.iaload, 1) := by decide +kernel
theorem dl_666 : decode code 666 = .ok (.aload_n 0, 1) := by decide +kernel
theorem dl_667 : decode code 667 = .ok (.iload 4, 2) := by decide +kernel
theorem dl_669 : decode code 669 = .ok (.iconst 2, 1) := by decide +kernel
theorem dl_670 : decode code 670 = .ok (.iadd, 1) := by decide +kernel
theorem dl_671 : decode code 671 = .ok (.iaload, 1) := by decide +kernel
theorem dl_672 : decode code 672 = .ok (.aload_n 0, 1) := by decide +kernel
theorem dl_673 : decode code 673 = .ok (.iload 4, 2) := by decide +kernel
theorem dl_675 : decode code 675 = .ok (.iconst 3, 1) := by decide +kernel
theorem dl_676 : decode code 676 = .ok (.iadd, 1) := by decide +kernel
theorem dl_677 : decode code 677 = .ok (.iaload, 1) := by decide +kernel
theorem dl_678 : decode code 678 = .ok (.invokevirtual 73, 3) := by decide +kernel
theorem dl_681 : decode code 681 = .ok (.lcmp, 1) := by decide +kernel
theorem dl_682 : decode code 682 = .ok (.ifCond .eq 1123, 3) := by decide +kernel
theorem dl_685 : decode code 685 = .ok (.iconst 0, 1) := by decide +kernel
theorem dl_686 : decode code 686 = .ok (.ireturn, 1) := by decide +kernel
theorem dl_687 : decode code 687 = .ok (.aload_n 1, 1) := by decide +kernel
theorem dl_688 : decode code 688 = .ok (.aload_n 0, 1) := by decide +kernel
theorem dl_689 : decode code 689 = .ok (.iload 4, 2) := by decide +kernel
theorem dl_691 : decode code 691 = .ok (.iconst 1, 1) := by decide +kernel
theorem dl_692 : decode code 692 = .ok (.iadd, 1) := by decide +kernel
theorem dl_693 : decode code 693 = .ok (.iaload, 1) := by decide +kernel
theorem dl_694 : decode code 694 = .ok (.aload_n 0, 1) := by decide +kernel
theorem dl_695 : decode code 695 = .ok (.iload 4, 2) := by decide +kernel
theorem dl_697 : decode code 697 = .ok (.iconst 2, 1) := by decide +kernel
theorem dl_698 : decode code 698 = .ok (.iadd, 1) := by decide +kernel
theorem dl_699 : decode code 699 = .ok (.iaload, 1) := by decide +kernel
theorem dl_700 : decode code 700 = .ok (.aload_n 0, 1) := by decide +kernel
theorem dl_701 : decode code 701 = .ok (.iload 4, 2) := by decide +kernel
theorem dl_703 : decode code 703 = .ok (.iconst 3, 1) := by decide +kernel
theorem dl_704 : decode code 704 = .ok (.iadd, 1) := by decide +kernel
theorem dl_705 : decode code 705 = .ok (.iaload, 1) := by decide +kernel
theorem dl_706 : decode code 706 = .ok (.ifCond .eq 7, 3) := by decide +kernel
theorem dl_709 : decode code 709 = .ok (.iconst 1, 1) := by decide +kernel
theorem dl_710 : decode code 710 = .ok (.goto 4, 3) := by decide +kernel
theorem dl_713 : decode code 713 = .ok (.iconst 0, 1) := by decide +kernel
theorem dl_714 : decode code 714 = .ok (.invokevirtual 74, 3) := by decide +kernel
theorem dl_717 : decode code 717 = .ok (.aload_n 2, 1) := by decide +kernel
theorem dl_718 : decode code 718 = .ok (.aload_n 0, 1) := by decide +kernel
theorem dl_719 : decode code 719 = .ok (.iload 4, 2) := by decide +kernel
theorem dl_721 : decode code 721 = .ok (.iconst 1, 1) := by decide +kernel
theorem dl_722 : decode code 722 = .ok (.iadd, 1) := by decide +kernel
theorem dl_723 : decode code 723 = .ok (.iaload, 1) := by decide +kernel
theorem dl_724 : decode code 724 = .ok (.aload_n 0, 1) := by decide +kernel
theorem dl_725 : decode code 725 = .ok (.iload 4, 2) := by decide +kernel
theorem dl_727 : decode code 727 = .ok (.iconst 2, 1) := by decide +kernel
theorem dl_728 : decode code 728 = .ok (.iadd, 1) := by decide +kernel
theorem dl_729 : decode code 729 = .ok (.iaload, 1) := by decide +kernel
theorem dl_730 : decode code 730 = .ok (.aload_n 0, 1) := by decide +kernel
theorem dl_731 : decode code 731 = .ok (.iload 4, 2) := by decide +kernel
theorem dl_733 : decode code 733 = .ok (.iconst 3, 1) := by decide +kernel
theorem dl_734 : decode code 734 = .ok (.iadd, 1) := by decide +kernel
theorem dl_735 : decode code 735 = .ok (.iaload, 1) := by decide +kernel
theorem dl_736 : decode code 736 = .ok (.ifCond .eq 7, 3) := by decide +kernel
theorem dl_739 : decode code 739 = .ok (.iconst 1, 1) := by decide +kernel
theorem dl_740 : decode code 740 = .ok (.goto 4, 3) := by decide +kernel
theorem dl_743 : decode code 743 = .ok (.iconst 0, 1) := by decide +kernel
theorem dl_744 : decode code 744 = .ok (.invokevirtual 78, 3) := by decide +kernel
theorem dl_747 : decode code 747 = .ok (.if_icmp .eq 1058, 3) := by decide +kernel
theorem dl_750 : decode code 750 = .ok (.iconst 0, 1) := by decide +kernel
theorem dl_751 : decode code 751 = .ok (.ireturn, 1) := by decide +kernel
theorem dl_752 : decode code 752 = .ok (.aload_n 1, 1) := by decide +kernel
theorem dl_753 : decode code 753 = .ok (.aload_n 0, 1) := by decide +kernel
theorem dl_754 : decode code 754 = .ok (.iload 4, 2) := by decide +kernel
theorem dl_756 : decode code 756 = .ok (.iconst 1, 1) := by decide +kernel
theorem dl_757 : decode code 757 = .ok (.iadd, 1) := by decide +kernel
theorem dl_758 : decode code 758 = .ok (.iaload, 1) := by decide +kernel
theorem dl_759 : decode code 759 = .ok (.aload_n 0, 1) := by decide +kernel
theorem dl_760 : decode code 760 = .ok (.iload 4, 2) := by decide +kernel
theorem dl_762 : decode code 762 = .ok (.iconst 2, 1) := by decide +kernel
theorem dl_763 : decode code 763 = .ok (.iadd, 1) := by decide +kernel
theorem dl_764 : decode code 764 = .ok (.iaload, 1) := by decide +kernel
theorem dl_765 : decode code 765 = .ok (.invokevirtual 79, 3) := by decide +kernel
theorem dl_768 : decode code 768 = .ok (.aload_n 2, 1) := by decide +kernel
theorem dl_769 : decode code 769 = .ok (.aload_n 0, 1) := by decide +kernel

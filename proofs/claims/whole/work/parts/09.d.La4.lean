theorem d_La_law_623 : decode code 623 = .ok (.i2l, 1) := by decide +kernel
theorem d_La_law_624 : decode code 624 = .ok (.bipush 32, 2) := by decide +kernel
theorem d_La_law_626 : decode code 626 = .ok (.lshl, 1) := by decide +kernel
theorem d_La_law_627 : decode code 627 = .ok (.aload_n 0, 1) := by decide +kernel
theorem d_La_law_628 : decode code 628 = .ok (.iload 4, 2) := by decide +kernel
theorem d_La_law_630 : decode code 630 = .ok (.iconst 2, 1) := by decide +kernel
theorem d_La_law_631 : decode code 631 = .ok (.iadd, 1) := by decide +kernel
theorem d_La_law_632 : decode code 632 = .ok (.iaload, 1) := by decide +kernel
theorem d_La_law_633 : decode code 633 = .ok (.i2l, 1) := by decide +kernel
theorem d_La_law_634 : decode code 634 = .ok (.ldc2_w 27, 3) := by decide +kernel
theorem d_La_law_637 : decode code 637 = .ok (.land, 1) := by decide +kernel
theorem d_La_law_638 : decode code 638 = .ok (.lor, 1) := by decide +kernel
theorem d_La_law_639 : decode code 639 = .ok (.invokevirtual 79, 3) := by decide +kernel
theorem d_La_law_642 : decode code 642 = .ok (.aload_n 2, 1) := by decide +kernel
theorem d_La_law_643 : decode code 643 = .ok (.aload_n 0, 1) := by decide +kernel
theorem d_La_law_644 : decode code 644 = .ok (.iload 4, 2) := by decide +kernel
theorem d_La_law_646 : decode code 646 = .ok (.iconst 1, 1) := by decide +kernel
theorem d_La_law_647 : decode code 647 = .ok (.iadd, 1) := by decide +kernel
theorem d_La_law_648 : decode code 648 = .ok (.iaload, 1) := by decide +kernel
theorem d_La_law_649 : decode code 649 = .ok (.i2l, 1) := by decide +kernel
theorem d_La_law_650 : decode code 650 = .ok (.bipush 32, 2) := by decide +kernel
theorem d_La_law_652 : decode code 652 = .ok (.lshl, 1) := by decide +kernel
theorem d_La_law_653 : decode code 653 = .ok (.aload_n 0, 1) := by decide +kernel
theorem d_La_law_654 : decode code 654 = .ok (.iload 4, 2) := by decide +kernel
theorem d_La_law_656 : decode code 656 = .ok (.iconst 2, 1) := by decide +kernel
theorem d_La_law_657 : decode code 657 = .ok (.iadd, 1) := by decide +kernel
theorem d_La_law_658 : decode code 658 = .ok (.iaload, 1) := by decide +kernel
theorem d_La_law_659 : decode code 659 = .ok (.i2l, 1) := by decide +kernel
theorem d_La_law_660 : decode code 660 = .ok (.ldc2_w 27, 3) := by decide +kernel
theorem d_La_law_663 : decode code 663 = .ok (.land, 1) := by decide +kernel
theorem d_La_law_664 : decode code 664 = .ok (.lor, 1) := by decide +kernel
theorem d_La_law_665 : decode code 665 = .ok (.invokevirtual 83, 3) := by decide +kernel
theorem d_La_law_668 : decode code 668 = .ok (.if_icmp .eq 140, 3) := by decide +kernel
theorem d_La_law_671 : decode code 671 = .ok (.iconst 0, 1) := by decide +kernel
theorem d_La_law_672 : decode code 672 = .ok (.ireturn, 1) := by decide +kernel
theorem d_La_law_673 : decode code 673 = .ok (.aload_n 1, 1) := by decide +kernel
theorem d_La_law_674 : decode code 674 = .ok (.aload_n 0, 1) := by decide +kernel
theorem d_La_law_675 : decode code 675 = .ok (.iload 4, 2) := by decide +kernel
theorem d_La_law_677 : decode code 677 = .ok (.iconst 1, 1) := by decide +kernel
theorem d_La_law_678 : decode code 678 = .ok (.iadd, 1) := by decide +kernel
theorem d_La_law_679 : decode code 679 = .ok (.iaload, 1) := by decide +kernel
theorem d_La_law_680 : decode code 680 = .ok (.aload_n 0, 1) := by decide +kernel
theorem d_La_law_681 : decode code 681 = .ok (.iload 4, 2) := by decide +kernel
theorem d_La_law_683 : decode code 683 = .ok (.iconst 2, 1) := by decide +kernel
theorem d_La_law_684 : decode code 684 = .ok (.iadd, 1) := by decide +kernel
theorem d_La_law_685 : decode code 685 = .ok (.iaload, 1) := by decide +kernel
theorem d_La_law_686 : decode code 686 = .ok (.ifCond .eq 7, 3) := by decide +kernel
theorem d_La_law_689 : decode code 689 = .ok (.iconst 1, 1) := by decide +kernel
theorem d_La_law_690 : decode code 690 = .ok (.goto 4, 3) := by decide +kernel
theorem d_La_law_693 : decode code 693 = .ok (.iconst 0, 1) := by decide +kernel
theorem d_La_law_694 : decode code 694 = .ok (.invokevirtual 84, 3) := by decide +kernel
theorem d_La_law_697 : decode code 697 = .ok (.aload_n 2, 1) := by decide +kernel
theorem d_La_law_698 : decode code 698 = .ok (.aload_n 0, 1) := by decide +kernel
theorem d_La_law_699 : decode code 699 = .ok (.iload 4, 2) := by decide +kernel
theorem d_La_law_701 : decode code 701 = .ok (.iconst 1, 1) := by decide +kernel
theorem d_La_law_702 : decode code 702 = .ok (.iadd, 1) := by decide +kernel
theorem d_La_law_703 : decode code 703 = .ok (.iaload, 1) := by decide +kernel
theorem d_La_law_704 : decode code 704 = .ok (.aload_n 0, 1) := by decide +kernel
theorem d_La_law_705 : decode code 705 = .ok (.iload 4, 2) := by decide +kernel
theorem d_La_law_707 : decode code 707 = .ok (.iconst 2, 1) := by decide +kernel
theorem d_La_law_708 : decode code 708 = .ok (.iadd, 1) := by decide +kernel
theorem d_La_law_709 : decode code 709 = .ok (.iaload, 1) := by decide +kernel
theorem d_La_law_710 : decode code 710 = .ok (.ifCond .eq 7, 3) := by decide +kernel
theorem d_La_law_713 : decode code 713 = .ok (.iconst 1, 1) := by decide +kernel
theorem d_La_law_714 : decode code 714 = .ok (.goto 4, 3) := by decide +kernel
theorem d_La_law_717 : decode code 717 = .ok (.iconst 0, 1) := by decide +kernel
theorem d_La_law_718 : decode code 718 = .ok (.invokevirtual 88, 3) := by decide +kernel
theorem d_La_law_721 : decode code 721 = .ok (.if_icmp .eq 87, 3) := by decide +kernel
theorem d_La_law_724 : decode code 724 = .ok (.iconst 0, 1) := by decide +kernel
theorem d_La_law_725 : decode code 725 = .ok (.ireturn, 1) := by decide +kernel
theorem d_La_law_726 : decode code 726 = .ok (.aload_n 1, 1) := by decide +kernel
theorem d_La_law_727 : decode code 727 = .ok (.aload_n 0, 1) := by decide +kernel
theorem d_La_law_728 : decode code 728 = .ok (.iload 4, 2) := by decide +kernel
theorem d_La_law_730 : decode code 730 = .ok (.iconst 1, 1) := by decide +kernel
theorem d_La_law_731 : decode code 731 = .ok (.iadd, 1) := by decide +kernel
theorem d_La_law_732 : decode code 732 = .ok (.iaload, 1) := by decide +kernel
theorem d_La_law_733 : decode code 733 = .ok (.i2l, 1) := by decide +kernel
theorem d_La_law_734 : decode code 734 = .ok (.bipush 32, 2) := by decide +kernel
theorem d_La_law_736 : decode code 736 = .ok (.lshl, 1) := by decide +kernel
theorem d_La_law_737 : decode code 737 = .ok (.aload_n 0, 1) := by decide +kernel
theorem d_La_law_738 : decode code 738 = .ok (.iload 4, 2) := by decide +kernel
theorem d_La_law_740 : decode code 740 = .ok (.iconst 2, 1) := by decide +kernel
theorem d_La_law_741 : decode code 741 = .ok (.iadd, 1) := by decide +kernel
theorem d_La_law_742 : decode code 742 = .ok (.iaload, 1) := by decide +kernel
theorem d_La_law_743 : decode code 743 = .ok (.i2l, 1) := by decide +kernel
theorem d_La_law_744 : decode code 744 = .ok (.ldc2_w 27, 3) := by decide +kernel
theorem d_La_law_747 : decode code 747 = .ok (.land, 1) := by decide +kernel
theorem d_La_law_748 : decode code 748 = .ok (.lor, 1) := by decide +kernel
theorem d_La_law_749 : decode code 749 = .ok (.invokevirtual 89, 3) := by decide +kernel
theorem d_La_law_752 : decode code 752 = .ok (.aload_n 2, 1) := by decide +kernel
theorem d_La_law_753 : decode code 753 = .ok (.aload_n 0, 1) := by decide +kernel
theorem d_La_law_754 : decode code 754 = .ok (.iload 4, 2) := by decide +kernel
theorem d_La_law_756 : decode code 756 = .ok (.iconst 1, 1) := by decide +kernel
theorem d_La_law_757 : decode code 757 = .ok (.iadd, 1) := by decide +kernel
theorem d_La_law_758 : decode code 758 = .ok (.iaload, 1) := by decide +kernel
theorem d_La_law_759 : decode code 759 = .ok (.i2l, 1) := by decide +kernel
theorem d_La_law_760 : decode code 760 = .ok (.bipush 32, 2) := by decide +kernel
theorem d_La_law_762 : decode code 762 = .ok (.lshl, 1) := by decide +kernel
theorem d_La_law_763 : decode code 763 = .ok (.aload_n 0, 1) := by decide +kernel
theorem d_La_law_764 : decode code 764 = .ok (.iload 4, 2) := by decide +kernel
theorem d_La_law_766 : decode code 766 = .ok (.iconst 2, 1) := by decide +kernel
theorem d_La_law_767 : decode code 767 = .ok (.iadd, 1) := by decide +kernel
theorem d_La_law_768 : decode code 768 = .ok (.iaload, 1) := by decide +kernel
theorem d_La_law_769 : decode code 769 = .ok (.i2l, 1) := by decide +kernel
theorem d_La_law_770 : decode code 770 = .ok (.ldc2_w 27, 3) := by decide +kernel
theorem d_La_law_773 : decode code 773 = .ok (.land, 1) := by decide +kernel
theorem d_La_law_774 : decode code 774 = .ok (.lor, 1) := by decide +kernel
theorem d_La_law_775 : decode code 775 = .ok (.invokevirtual 92, 3) := by decide +kernel
theorem d_La_law_778 : decode code 778 = .ok (.if_icmp .eq 30, 3) := by decide +kernel
theorem d_La_law_781 : decode code 781 = .ok (.iconst 0, 1) := by decide +kernel
theorem d_La_law_782 : decode code 782 = .ok (.ireturn, 1) := by decide +kernel
theorem d_La_law_783 : decode code 783 = .ok (.aload_n 1, 1) := by decide +kernel
theorem d_La_law_784 : decode code 784 = .ok (.aload_n 0, 1) := by decide +kernel
theorem d_La_law_785 : decode code 785 = .ok (.iload 4, 2) := by decide +kernel
theorem d_La_law_787 : decode code 787 = .ok (.iconst 1, 1) := by decide +kernel
theorem d_La_law_788 : decode code 788 = .ok (.iadd, 1) := by decide +kernel
theorem d_La_law_789 : decode code 789 = .ok (.iaload, 1) := by decide +kernel
theorem d_La_law_790 : decode code 790 = .ok (.invokevirtual 93, 3) := by decide +kernel
theorem d_La_law_793 : decode code 793 = .ok (.aload_n 2, 1) := by decide +kernel
theorem d_La_law_794 : decode code 794 = .ok (.aload_n 0, 1) := by decide +kernel
theorem d_La_law_795 : decode code 795 = .ok (.iload 4, 2) := by decide +kernel
theorem d_La_law_797 : decode code 797 = .ok (.iconst 1, 1) := by decide +kernel
theorem d_La_law_798 : decode code 798 = .ok (.iadd, 1) := by decide +kernel
theorem d_La_law_799 : decode code 799 = .ok (.iaload, 1) := by decide +kernel
theorem d_La_law_800 : decode code 800 = .ok (.invokevirtual 96, 3) := by decide +kernel
theorem d_La_law_803 : decode code 803 = .ok (.if_icmp .eq 5, 3) := by decide +kernel
theorem d_La_law_806 : decode code 806 = .ok (.iconst 0, 1) := by decide +kernel
theorem d_La_law_807 : decode code 807 = .ok (.ireturn, 1) := by decide +kernel
theorem d_La_law_808 : decode code 808 = .ok (.iinc 4 6, 3) := by decide +kernel
theorem d_La_law_811 : decode code 811 = .ok (.goto (-778), 3) := by decide +kernel
theorem d_La_law_814 : decode code 814 = .ok (.iconst 1, 1) := by decide +kernel
theorem d_La_law_815 : decode code 815 = .ok (.ireturn, 1) := by decide +kernel

theorem d_law_679 : decode code 679 = .ok (.bipush 32, 2) := by decide +kernel
theorem d_law_681 : decode code 681 = .ok (.lshl, 1) := by decide +kernel
theorem d_law_682 : decode code 682 = .ok (.aload_n 0, 1) := by decide +kernel
theorem d_law_683 : decode code 683 = .ok (.iload 4, 2) := by decide +kernel
theorem d_law_685 : decode code 685 = .ok (.iconst 3, 1) := by decide +kernel
theorem d_law_686 : decode code 686 = .ok (.iadd, 1) := by decide +kernel
theorem d_law_687 : decode code 687 = .ok (.iaload, 1) := by decide +kernel
theorem d_law_688 : decode code 688 = .ok (.i2l, 1) := by decide +kernel
theorem d_law_689 : decode code 689 = .ok (.ldc2_w 70, 3) := by decide +kernel
theorem d_law_692 : decode code 692 = .ok (.land, 1) := by decide +kernel
theorem d_law_693 : decode code 693 = .ok (.lor, 1) := by decide +kernel
theorem d_law_694 : decode code 694 = .ok (.invokevirtual 110, 3) := by decide +kernel
theorem d_law_697 : decode code 697 = .ok (.istore 6, 2) := by decide +kernel
theorem d_law_699 : decode code 699 = .ok (.aload_n 2, 1) := by decide +kernel
theorem d_law_700 : decode code 700 = .ok (.invokevirtual 83, 3) := by decide +kernel
theorem d_law_703 : decode code 703 = .ok (.iload 5, 2) := by decide +kernel
theorem d_law_705 : decode code 705 = .ok (.if_icmp .eq 5, 3) := by decide +kernel
theorem d_law_708 : decode code 708 = .ok (.iconst 0, 1) := by decide +kernel
theorem d_law_709 : decode code 709 = .ok (.ireturn, 1) := by decide +kernel
theorem d_law_710 : decode code 710 = .ok (.iload 5, 2) := by decide +kernel
theorem d_law_712 : decode code 712 = .ok (.ifCond .ne 15, 3) := by decide +kernel
theorem d_law_715 : decode code 715 = .ok (.aload_n 3, 1) := by decide +kernel
theorem d_law_716 : decode code 716 = .ok (.iconst 0, 1) := by decide +kernel
theorem d_law_717 : decode code 717 = .ok (.laload, 1) := by decide +kernel
theorem d_law_718 : decode code 718 = .ok (.iload 6, 2) := by decide +kernel
theorem d_law_720 : decode code 720 = .ok (.i2l, 1) := by decide +kernel
theorem d_law_721 : decode code 721 = .ok (.lcmp, 1) := by decide +kernel
theorem d_law_722 : decode code 722 = .ok (.ifCond .eq 5, 3) := by decide +kernel
theorem d_law_725 : decode code 725 = .ok (.iconst 0, 1) := by decide +kernel
theorem d_law_726 : decode code 726 = .ok (.ireturn, 1) := by decide +kernel
theorem d_law_727 : decode code 727 = .ok (.goto 542, 3) := by decide +kernel
theorem d_law_730 : decode code 730 = .ok (.aload_n 1, 1) := by decide +kernel
theorem d_law_731 : decode code 731 = .ok (.aload_n 0, 1) := by decide +kernel
theorem d_law_732 : decode code 732 = .ok (.iload 4, 2) := by decide +kernel
theorem d_law_734 : decode code 734 = .ok (.iconst 1, 1) := by decide +kernel
theorem d_law_735 : decode code 735 = .ok (.iadd, 1) := by decide +kernel
theorem d_law_736 : decode code 736 = .ok (.iaload, 1) := by decide +kernel
theorem d_law_737 : decode code 737 = .ok (.aload_n 0, 1) := by decide +kernel
theorem d_law_738 : decode code 738 = .ok (.iload 4, 2) := by decide +kernel
theorem d_law_740 : decode code 740 = .ok (.iconst 2, 1) := by decide +kernel
theorem d_law_741 : decode code 741 = .ok (.iadd, 1) := by decide +kernel
theorem d_law_742 : decode code 742 = .ok (.iaload, 1) := by decide +kernel
theorem d_law_743 : decode code 743 = .ok (.i2l, 1) := by decide +kernel
theorem d_law_744 : decode code 744 = .ok (.bipush 32, 2) := by decide +kernel
theorem d_law_746 : decode code 746 = .ok (.lshl, 1) := by decide +kernel
theorem d_law_747 : decode code 747 = .ok (.aload_n 0, 1) := by decide +kernel
theorem d_law_748 : decode code 748 = .ok (.iload 4, 2) := by decide +kernel
theorem d_law_750 : decode code 750 = .ok (.iconst 3, 1) := by decide +kernel
theorem d_law_751 : decode code 751 = .ok (.iadd, 1) := by decide +kernel
theorem d_law_752 : decode code 752 = .ok (.iaload, 1) := by decide +kernel
theorem d_law_753 : decode code 753 = .ok (.i2l, 1) := by decide +kernel
theorem d_law_754 : decode code 754 = .ok (.ldc2_w 70, 3) := by decide +kernel
theorem d_law_757 : decode code 757 = .ok (.land, 1) := by decide +kernel
theorem d_law_758 : decode code 758 = .ok (.lor, 1) := by decide +kernel
theorem d_law_759 : decode code 759 = .ok (.aload_n 3, 1) := by decide +kernel
theorem d_law_760 : decode code 760 = .ok (.invokestatic 111, 3) := by decide +kernel
theorem d_law_763 : decode code 763 = .ok (.istore 5, 2) := by decide +kernel
theorem d_law_765 : decode code 765 = .ok (.aload_n 2, 1) := by decide +kernel
theorem d_law_766 : decode code 766 = .ok (.aload_n 0, 1) := by decide +kernel
theorem d_law_767 : decode code 767 = .ok (.iload 4, 2) := by decide +kernel
theorem d_law_769 : decode code 769 = .ok (.iconst 1, 1) := by decide +kernel
theorem d_law_770 : decode code 770 = .ok (.iadd, 1) := by decide +kernel
theorem d_law_771 : decode code 771 = .ok (.iaload, 1) := by decide +kernel
theorem d_law_772 : decode code 772 = .ok (.aload_n 0, 1) := by decide +kernel
theorem d_law_773 : decode code 773 = .ok (.iload 4, 2) := by decide +kernel
theorem d_law_775 : decode code 775 = .ok (.iconst 2, 1) := by decide +kernel
theorem d_law_776 : decode code 776 = .ok (.iadd, 1) := by decide +kernel
theorem d_law_777 : decode code 777 = .ok (.iaload, 1) := by decide +kernel
theorem d_law_778 : decode code 778 = .ok (.i2l, 1) := by decide +kernel
theorem d_law_779 : decode code 779 = .ok (.bipush 32, 2) := by decide +kernel
theorem d_law_781 : decode code 781 = .ok (.lshl, 1) := by decide +kernel
theorem d_law_782 : decode code 782 = .ok (.aload_n 0, 1) := by decide +kernel
theorem d_law_783 : decode code 783 = .ok (.iload 4, 2) := by decide +kernel
theorem d_law_785 : decode code 785 = .ok (.iconst 3, 1) := by decide +kernel
theorem d_law_786 : decode code 786 = .ok (.iadd, 1) := by decide +kernel
theorem d_law_787 : decode code 787 = .ok (.iaload, 1) := by decide +kernel
theorem d_law_788 : decode code 788 = .ok (.i2l, 1) := by decide +kernel
theorem d_law_789 : decode code 789 = .ok (.ldc2_w 70, 3) := by decide +kernel
theorem d_law_792 : decode code 792 = .ok (.land, 1) := by decide +kernel
theorem d_law_793 : decode code 793 = .ok (.lor, 1) := by decide +kernel
theorem d_law_794 : decode code 794 = .ok (.invokevirtual 113, 3) := by decide +kernel
theorem d_law_797 : decode code 797 = .ok (.istore 6, 2) := by decide +kernel
theorem d_law_799 : decode code 799 = .ok (.aload_n 2, 1) := by decide +kernel
theorem d_law_800 : decode code 800 = .ok (.invokevirtual 83, 3) := by decide +kernel
theorem d_law_803 : decode code 803 = .ok (.iload 5, 2) := by decide +kernel
theorem d_law_805 : decode code 805 = .ok (.if_icmp .eq 5, 3) := by decide +kernel
theorem d_law_808 : decode code 808 = .ok (.iconst 0, 1) := by decide +kernel
theorem d_law_809 : decode code 809 = .ok (.ireturn, 1) := by decide +kernel
theorem d_law_810 : decode code 810 = .ok (.iload 5, 2) := by decide +kernel
theorem d_law_812 : decode code 812 = .ok (.ifCond .ne 22, 3) := by decide +kernel
theorem d_law_815 : decode code 815 = .ok (.aload_n 3, 1) := by decide +kernel
theorem d_law_816 : decode code 816 = .ok (.iconst 0, 1) := by decide +kernel
theorem d_law_817 : decode code 817 = .ok (.laload, 1) := by decide +kernel
theorem d_law_818 : decode code 818 = .ok (.iload 6, 2) := by decide +kernel
theorem d_law_820 : decode code 820 = .ok (.ifCond .eq 7, 3) := by decide +kernel
theorem d_law_823 : decode code 823 = .ok (.lconst 1, 1) := by decide +kernel
theorem d_law_824 : decode code 824 = .ok (.goto 4, 3) := by decide +kernel
theorem d_law_827 : decode code 827 = .ok (.lconst 0, 1) := by decide +kernel
theorem d_law_828 : decode code 828 = .ok (.lcmp, 1) := by decide +kernel
theorem d_law_829 : decode code 829 = .ok (.ifCond .eq 5, 3) := by decide +kernel

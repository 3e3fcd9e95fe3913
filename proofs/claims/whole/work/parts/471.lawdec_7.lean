theorem d_law_677 : decode code 677 = .ok (.iload 4, 2) := by decide +kernel
theorem d_law_679 : decode code 679 = .ok (.iconst 2, 1) := by decide +kernel
theorem d_law_680 : decode code 680 = .ok (.iadd, 1) := by decide +kernel
theorem d_law_681 : decode code 681 = .ok (.iaload, 1) := by decide +kernel
theorem d_law_682 : decode code 682 = .ok (.aload_n 0, 1) := by decide +kernel
theorem d_law_683 : decode code 683 = .ok (.iload 4, 2) := by decide +kernel
theorem d_law_685 : decode code 685 = .ok (.iconst 3, 1) := by decide +kernel
theorem d_law_686 : decode code 686 = .ok (.iadd, 1) := by decide +kernel
theorem d_law_687 : decode code 687 = .ok (.iaload, 1) := by decide +kernel
theorem d_law_688 : decode code 688 = .ok (.i2l, 1) := by decide +kernel
theorem d_law_689 : decode code 689 = .ok (.bipush 32, 2) := by decide +kernel
theorem d_law_691 : decode code 691 = .ok (.lshl, 1) := by decide +kernel
theorem d_law_692 : decode code 692 = .ok (.aload_n 0, 1) := by decide +kernel
theorem d_law_693 : decode code 693 = .ok (.iload 4, 2) := by decide +kernel
theorem d_law_695 : decode code 695 = .ok (.iconst 4, 1) := by decide +kernel
theorem d_law_696 : decode code 696 = .ok (.iadd, 1) := by decide +kernel
theorem d_law_697 : decode code 697 = .ok (.iaload, 1) := by decide +kernel
theorem d_law_698 : decode code 698 = .ok (.i2l, 1) := by decide +kernel
theorem d_law_699 : decode code 699 = .ok (.ldc2_w 40, 3) := by decide +kernel
theorem d_law_702 : decode code 702 = .ok (.land, 1) := by decide +kernel
theorem d_law_703 : decode code 703 = .ok (.lor, 1) := by decide +kernel
theorem d_law_704 : decode code 704 = .ok (.invokevirtual 91, 3) := by decide +kernel
theorem d_law_707 : decode code 707 = .ok (.aload_n 2, 1) := by decide +kernel
theorem d_law_708 : decode code 708 = .ok (.invokevirtual 61, 3) := by decide +kernel
theorem d_law_711 : decode code 711 = .ok (.iload 5, 2) := by decide +kernel
theorem d_law_713 : decode code 713 = .ok (.if_icmp .eq 5, 3) := by decide +kernel
theorem d_law_716 : decode code 716 = .ok (.iconst 0, 1) := by decide +kernel
theorem d_law_717 : decode code 717 = .ok (.ireturn, 1) := by decide +kernel
theorem d_law_718 : decode code 718 = .ok (.goto 96, 3) := by decide +kernel
theorem d_law_721 : decode code 721 = .ok (.aload_n 1, 1) := by decide +kernel
theorem d_law_722 : decode code 722 = .ok (.aload_n 0, 1) := by decide +kernel
theorem d_law_723 : decode code 723 = .ok (.iload 4, 2) := by decide +kernel
theorem d_law_725 : decode code 725 = .ok (.iconst 1, 1) := by decide +kernel
theorem d_law_726 : decode code 726 = .ok (.iadd, 1) := by decide +kernel
theorem d_law_727 : decode code 727 = .ok (.iaload, 1) := by decide +kernel
theorem d_law_728 : decode code 728 = .ok (.aload_n 3, 1) := by decide +kernel
theorem d_law_729 : decode code 729 = .ok (.invokestatic 92, 3) := by decide +kernel
theorem d_law_732 : decode code 732 = .ok (.istore 5, 2) := by decide +kernel
theorem d_law_734 : decode code 734 = .ok (.aload_n 2, 1) := by decide +kernel
theorem d_law_735 : decode code 735 = .ok (.aload_n 0, 1) := by decide +kernel
theorem d_law_736 : decode code 736 = .ok (.iload 4, 2) := by decide +kernel
theorem d_law_738 : decode code 738 = .ok (.iconst 1, 1) := by decide +kernel
theorem d_law_739 : decode code 739 = .ok (.iadd, 1) := by decide +kernel
theorem d_law_740 : decode code 740 = .ok (.iaload, 1) := by decide +kernel
theorem d_law_741 : decode code 741 = .ok (.invokevirtual 95, 3) := by decide +kernel
theorem d_law_744 : decode code 744 = .ok (.istore 6, 2) := by decide +kernel
theorem d_law_746 : decode code 746 = .ok (.aload_n 2, 1) := by decide +kernel
theorem d_law_747 : decode code 747 = .ok (.invokevirtual 61, 3) := by decide +kernel
theorem d_law_750 : decode code 750 = .ok (.iload 5, 2) := by decide +kernel
theorem d_law_752 : decode code 752 = .ok (.if_icmp .eq 5, 3) := by decide +kernel
theorem d_law_755 : decode code 755 = .ok (.iconst 0, 1) := by decide +kernel
theorem d_law_756 : decode code 756 = .ok (.ireturn, 1) := by decide +kernel
theorem d_law_757 : decode code 757 = .ok (.iload 5, 2) := by decide +kernel
theorem d_law_759 : decode code 759 = .ok (.ifCond .ne 15, 3) := by decide +kernel
theorem d_law_762 : decode code 762 = .ok (.aload_n 3, 1) := by decide +kernel
theorem d_law_763 : decode code 763 = .ok (.iconst 0, 1) := by decide +kernel
theorem d_law_764 : decode code 764 = .ok (.laload, 1) := by decide +kernel
theorem d_law_765 : decode code 765 = .ok (.iload 6, 2) := by decide +kernel
theorem d_law_767 : decode code 767 = .ok (.i2l, 1) := by decide +kernel
theorem d_law_768 : decode code 768 = .ok (.lcmp, 1) := by decide +kernel

theorem d_law_769 : decode code 769 = .ok (.ifCond .eq 5, 3) := by decide +kernel
theorem d_law_772 : decode code 772 = .ok (.iconst 0, 1) := by decide +kernel
theorem d_law_773 : decode code 773 = .ok (.ireturn, 1) := by decide +kernel
theorem d_law_774 : decode code 774 = .ok (.goto 40, 3) := by decide +kernel
theorem d_law_777 : decode code 777 = .ok (.aload_n 1, 1) := by decide +kernel
theorem d_law_778 : decode code 778 = .ok (.aload_n 0, 1) := by decide +kernel
theorem d_law_779 : decode code 779 = .ok (.iload 4, 2) := by decide +kernel
theorem d_law_781 : decode code 781 = .ok (.iconst 1, 1) := by decide +kernel
theorem d_law_782 : decode code 782 = .ok (.iadd, 1) := by decide +kernel
theorem d_law_783 : decode code 783 = .ok (.iaload, 1) := by decide +kernel
theorem d_law_784 : decode code 784 = .ok (.aload_n 0, 1) := by decide +kernel
theorem d_law_785 : decode code 785 = .ok (.iload 4, 2) := by decide +kernel
theorem d_law_787 : decode code 787 = .ok (.iconst 2, 1) := by decide +kernel
theorem d_law_788 : decode code 788 = .ok (.iadd, 1) := by decide +kernel
theorem d_law_789 : decode code 789 = .ok (.iaload, 1) := by decide +kernel
theorem d_law_790 : decode code 790 = .ok (.invokevirtual 96, 3) := by decide +kernel
theorem d_law_793 : decode code 793 = .ok (.aload_n 2, 1) := by decide +kernel
theorem d_law_794 : decode code 794 = .ok (.aload_n 0, 1) := by decide +kernel
theorem d_law_795 : decode code 795 = .ok (.iload 4, 2) := by decide +kernel
theorem d_law_797 : decode code 797 = .ok (.iconst 1, 1) := by decide +kernel
theorem d_law_798 : decode code 798 = .ok (.iadd, 1) := by decide +kernel
theorem d_law_799 : decode code 799 = .ok (.iaload, 1) := by decide +kernel
theorem d_law_800 : decode code 800 = .ok (.aload_n 0, 1) := by decide +kernel
theorem d_law_801 : decode code 801 = .ok (.iload 4, 2) := by decide +kernel
theorem d_law_803 : decode code 803 = .ok (.iconst 2, 1) := by decide +kernel
theorem d_law_804 : decode code 804 = .ok (.iadd, 1) := by decide +kernel
theorem d_law_805 : decode code 805 = .ok (.iaload, 1) := by decide +kernel
theorem d_law_806 : decode code 806 = .ok (.invokevirtual 100, 3) := by decide +kernel
theorem d_law_809 : decode code 809 = .ok (.if_icmp .eq 5, 3) := by decide +kernel
theorem d_law_812 : decode code 812 = .ok (.iconst 0, 1) := by decide +kernel
theorem d_law_813 : decode code 813 = .ok (.ireturn, 1) := by decide +kernel
theorem d_law_814 : decode code 814 = .ok (.iinc 4 5, 3) := by decide +kernel
theorem d_law_817 : decode code 817 = .ok (.goto (-794), 3) := by decide +kernel
theorem d_law_820 : decode code 820 = .ok (.iconst 1, 1) := by decide +kernel
theorem d_law_821 : decode code 821 = .ok (.ireturn, 1) := by decide +kernel

theorem zd_L_law_739 : decode zb_L_law 739 = .ok (.aload_n 2, 1) := by decide +kernel
theorem zd_L_law_740 : decode zb_L_law 740 = .ok (.aload_n 0, 1) := by decide +kernel
theorem zd_L_law_741 : decode zb_L_law 741 = .ok (.iload 4, 2) := by decide +kernel
theorem zd_L_law_743 : decode zb_L_law 743 = .ok (.iconst 1, 1) := by decide +kernel
theorem zd_L_law_744 : decode zb_L_law 744 = .ok (.iadd, 1) := by decide +kernel
theorem zd_L_law_745 : decode zb_L_law 745 = .ok (.iaload, 1) := by decide +kernel
theorem zd_L_law_746 : decode zb_L_law 746 = .ok (.aload_n 0, 1) := by decide +kernel
theorem zd_L_law_747 : decode zb_L_law 747 = .ok (.iload 4, 2) := by decide +kernel
theorem zd_L_law_749 : decode zb_L_law 749 = .ok (.iconst 2, 1) := by decide +kernel
theorem zd_L_law_750 : decode zb_L_law 750 = .ok (.iadd, 1) := by decide +kernel
theorem zd_L_law_751 : decode zb_L_law 751 = .ok (.iaload, 1) := by decide +kernel
theorem zd_L_law_752 : decode zb_L_law 752 = .ok (.invokevirtual 91, 3) := by decide +kernel
theorem zd_L_law_755 : decode zb_L_law 755 = .ok (.if_icmp .eq 5, 3) := by decide +kernel
theorem zd_L_law_758 : decode zb_L_law 758 = .ok (.iconst 0, 1) := by decide +kernel
theorem zd_L_law_759 : decode zb_L_law 759 = .ok (.ireturn, 1) := by decide +kernel
theorem zd_L_law_760 : decode zb_L_law 760 = .ok (.iinc 4 6, 3) := by decide +kernel
theorem zd_L_law_763 : decode zb_L_law 763 = .ok (.goto (-740), 3) := by decide +kernel
theorem zd_L_law_766 : decode zb_L_law 766 = .ok (.iconst 1, 1) := by decide +kernel
theorem zd_L_law_767 : decode zb_L_law 767 = .ok (.ireturn, 1) := by decide +kernel

theorem d_L_law_664 : decode b_L_law 664 = .ok (.aload_n 0, 1) := by decide +kernel
theorem d_L_law_665 : decode b_L_law 665 = .ok (.iload 4, 2) := by decide +kernel
theorem d_L_law_667 : decode b_L_law 667 = .ok (.iconst 2, 1) := by decide +kernel
theorem d_L_law_668 : decode b_L_law 668 = .ok (.iadd, 1) := by decide +kernel
theorem d_L_law_669 : decode b_L_law 669 = .ok (.iaload, 1) := by decide +kernel
theorem d_L_law_670 : decode b_L_law 670 = .ok (.invokevirtual 94, 3) := by decide +kernel
theorem d_L_law_673 : decode b_L_law 673 = .ok (.istore 6, 2) := by decide +kernel
theorem d_L_law_675 : decode b_L_law 675 = .ok (.aload_n 2, 1) := by decide +kernel
theorem d_L_law_676 : decode b_L_law 676 = .ok (.invokevirtual 68, 3) := by decide +kernel
theorem d_L_law_679 : decode b_L_law 679 = .ok (.iload 5, 2) := by decide +kernel
theorem d_L_law_681 : decode b_L_law 681 = .ok (.if_icmp .eq 5, 3) := by decide +kernel
theorem d_L_law_684 : decode b_L_law 684 = .ok (.iconst 0, 1) := by decide +kernel
theorem d_L_law_685 : decode b_L_law 685 = .ok (.ireturn, 1) := by decide +kernel
theorem d_L_law_686 : decode b_L_law 686 = .ok (.iload 5, 2) := by decide +kernel
theorem d_L_law_688 : decode b_L_law 688 = .ok (.ifCond .ne 15, 3) := by decide +kernel
theorem d_L_law_691 : decode b_L_law 691 = .ok (.aload_n 3, 1) := by decide +kernel
theorem d_L_law_692 : decode b_L_law 692 = .ok (.iconst 0, 1) := by decide +kernel
theorem d_L_law_693 : decode b_L_law 693 = .ok (.laload, 1) := by decide +kernel
theorem d_L_law_694 : decode b_L_law 694 = .ok (.iload 6, 2) := by decide +kernel
theorem d_L_law_696 : decode b_L_law 696 = .ok (.i2l, 1) := by decide +kernel
theorem d_L_law_697 : decode b_L_law 697 = .ok (.lcmp, 1) := by decide +kernel
theorem d_L_law_698 : decode b_L_law 698 = .ok (.ifCond .eq 5, 3) := by decide +kernel
theorem d_L_law_701 : decode b_L_law 701 = .ok (.iconst 0, 1) := by decide +kernel
theorem d_L_law_702 : decode b_L_law 702 = .ok (.ireturn, 1) := by decide +kernel
theorem d_L_law_703 : decode b_L_law 703 = .ok (.goto 519, 3) := by decide +kernel
theorem d_L_law_706 : decode b_L_law 706 = .ok (.aload_n 1, 1) := by decide +kernel
theorem d_L_law_707 : decode b_L_law 707 = .ok (.aload_n 0, 1) := by decide +kernel
theorem d_L_law_708 : decode b_L_law 708 = .ok (.iload 4, 2) := by decide +kernel
theorem d_L_law_710 : decode b_L_law 710 = .ok (.iconst 1, 1) := by decide +kernel
theorem d_L_law_711 : decode b_L_law 711 = .ok (.iadd, 1) := by decide +kernel
theorem d_L_law_712 : decode b_L_law 712 = .ok (.iaload, 1) := by decide +kernel
theorem d_L_law_713 : decode b_L_law 713 = .ok (.aload_n 0, 1) := by decide +kernel
theorem d_L_law_714 : decode b_L_law 714 = .ok (.iload 4, 2) := by decide +kernel
theorem d_L_law_716 : decode b_L_law 716 = .ok (.iconst 2, 1) := by decide +kernel
theorem d_L_law_717 : decode b_L_law 717 = .ok (.iadd, 1) := by decide +kernel
theorem d_L_law_718 : decode b_L_law 718 = .ok (.iaload, 1) := by decide +kernel
theorem d_L_law_719 : decode b_L_law 719 = .ok (.aload_n 0, 1) := by decide +kernel
theorem d_L_law_720 : decode b_L_law 720 = .ok (.iload 4, 2) := by decide +kernel
theorem d_L_law_722 : decode b_L_law 722 = .ok (.iconst 3, 1) := by decide +kernel
theorem d_L_law_723 : decode b_L_law 723 = .ok (.iadd, 1) := by decide +kernel
theorem d_L_law_724 : decode b_L_law 724 = .ok (.iaload, 1) := by decide +kernel
theorem d_L_law_725 : decode b_L_law 725 = .ok (.aload_n 0, 1) := by decide +kernel
theorem d_L_law_726 : decode b_L_law 726 = .ok (.iload 4, 2) := by decide +kernel
theorem d_L_law_728 : decode b_L_law 728 = .ok (.iconst 4, 1) := by decide +kernel
theorem d_L_law_729 : decode b_L_law 729 = .ok (.iadd, 1) := by decide +kernel
theorem d_L_law_730 : decode b_L_law 730 = .ok (.iaload, 1) := by decide +kernel
theorem d_L_law_731 : decode b_L_law 731 = .ok (.aload_n 3, 1) := by decide +kernel
theorem d_L_law_732 : decode b_L_law 732 = .ok (.invokestatic 95, 3) := by decide +kernel
theorem d_L_law_735 : decode b_L_law 735 = .ok (.istore 5, 2) := by decide +kernel
theorem d_L_law_737 : decode b_L_law 737 = .ok (.aload_n 2, 1) := by decide +kernel

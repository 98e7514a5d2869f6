theorem d_L_law_932 : decode b_L_law 932 = .ok (.iconst 1, 1) := by decide +kernel
theorem d_L_law_933 : decode b_L_law 933 = .ok (.iadd, 1) := by decide +kernel
theorem d_L_law_934 : decode b_L_law 934 = .ok (.iaload, 1) := by decide +kernel
theorem d_L_law_935 : decode b_L_law 935 = .ok (.invokevirtual 127, 3) := by decide +kernel
theorem d_L_law_938 : decode b_L_law 938 = .ok (.pop, 1) := by decide +kernel
theorem d_L_law_939 : decode b_L_law 939 = .ok (.goto 3, 3) := by decide +kernel
theorem d_L_law_942 : decode b_L_law 942 = .ok (.iinc 4 5, 3) := by decide +kernel
theorem d_L_law_945 : decode b_L_law 945 = .ok (.goto (-922), 3) := by decide +kernel
theorem d_L_law_948 : decode b_L_law 948 = .ok (.iconst 1, 1) := by decide +kernel
theorem d_L_law_949 : decode b_L_law 949 = .ok (.ireturn, 1) := by decide +kernel

theorem dL_law_2631 : decode cL_law 2631 = .ok (.istore 6, 2) := by decide +kernel
theorem dL_law_2633 : decode cL_law 2633 = .ok (.aload_n 2, 1) := by decide +kernel
theorem dL_law_2634 : decode cL_law 2634 = .ok (.invokevirtual 326, 3) := by decide +kernel
theorem dL_law_2637 : decode cL_law 2637 = .ok (.istore 7, 2) := by decide +kernel
theorem dL_law_2639 : decode cL_law 2639 = .ok (.aload_n 2, 1) := by decide +kernel
theorem dL_law_2640 : decode cL_law 2640 = .ok (.invokevirtual 154, 3) := by decide +kernel
theorem dL_law_2643 : decode cL_law 2643 = .ok (.iload 6, 2) := by decide +kernel
theorem dL_law_2645 : decode cL_law 2645 = .ok (.if_icmp .eq 5, 3) := by decide +kernel
theorem dL_law_2648 : decode cL_law 2648 = .ok (.iconst 0, 1) := by decide +kernel
theorem dL_law_2649 : decode cL_law 2649 = .ok (.ireturn, 1) := by decide +kernel
theorem dL_law_2650 : decode cL_law 2650 = .ok (.iload 6, 2) := by decide +kernel
theorem dL_law_2652 : decode cL_law 2652 = .ok (.ifCond .ne 15, 3) := by decide +kernel
theorem dL_law_2655 : decode cL_law 2655 = .ok (.aload_n 3, 1) := by decide +kernel
theorem dL_law_2656 : decode cL_law 2656 = .ok (.iconst 0, 1) := by decide +kernel
theorem dL_law_2657 : decode cL_law 2657 = .ok (.laload, 1) := by decide +kernel
theorem dL_law_2658 : decode cL_law 2658 = .ok (.iload 7, 2) := by decide +kernel
theorem dL_law_2660 : decode cL_law 2660 = .ok (.i2l, 1) := by decide +kernel
theorem dL_law_2661 : decode cL_law 2661 = .ok (.lcmp, 1) := by decide +kernel
theorem dL_law_2662 : decode cL_law 2662 = .ok (.ifCond .eq 5, 3) := by decide +kernel
theorem dL_law_2665 : decode cL_law 2665 = .ok (.iconst 0, 1) := by decide +kernel
theorem dL_law_2666 : decode cL_law 2666 = .ok (.ireturn, 1) := by decide +kernel
theorem dL_law_2667 : decode cL_law 2667 = .ok (.goto 3, 3) := by decide +kernel
theorem dL_law_2670 : decode cL_law 2670 = .ok (.iinc 5 6, 3) := by decide +kernel
theorem dL_law_2673 : decode cL_law 2673 = .ok (.goto (-2645), 3) := by decide +kernel
theorem dL_law_2676 : decode cL_law 2676 = .ok (.iconst 1, 1) := by decide +kernel
theorem dL_law_2677 : decode cL_law 2677 = .ok (.ireturn, 1) := by decide +kernel

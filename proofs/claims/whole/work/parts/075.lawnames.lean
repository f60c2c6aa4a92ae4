theorem dL_law_2756 : decode cL_law 2756 = .ok (.iadd, 1) := by decide +kernel
theorem dL_law_2757 : decode cL_law 2757 = .ok (.iaload, 1) := by decide +kernel
theorem dL_law_2758 : decode cL_law 2758 = .ok (.aload_n 0, 1) := by decide +kernel
theorem dL_law_2759 : decode cL_law 2759 = .ok (.iload 5, 2) := by decide +kernel
theorem dL_law_2761 : decode cL_law 2761 = .ok (.iconst 2, 1) := by decide +kernel
theorem dL_law_2762 : decode cL_law 2762 = .ok (.iadd, 1) := by decide +kernel
theorem dL_law_2763 : decode cL_law 2763 = .ok (.iaload, 1) := by decide +kernel
theorem dL_law_2764 : decode cL_law 2764 = .ok (.aload_n 0, 1) := by decide +kernel
theorem dL_law_2765 : decode cL_law 2765 = .ok (.iload 5, 2) := by decide +kernel
theorem dL_law_2767 : decode cL_law 2767 = .ok (.iconst 3, 1) := by decide +kernel
theorem dL_law_2768 : decode cL_law 2768 = .ok (.iadd, 1) := by decide +kernel
theorem dL_law_2769 : decode cL_law 2769 = .ok (.iaload, 1) := by decide +kernel
theorem dL_law_2770 : decode cL_law 2770 = .ok (.aload_n 3, 1) := by decide +kernel
theorem dL_law_2771 : decode cL_law 2771 = .ok (.invokestatic 288, 3) := by decide +kernel
theorem dL_law_2774 : decode cL_law 2774 = .ok (.istore 6, 2) := by decide +kernel
theorem dL_law_2776 : decode cL_law 2776 = .ok (.aload_n 2, 1) := by decide +kernel
theorem dL_law_2777 : decode cL_law 2777 = .ok (.aload_n 0, 1) := by decide +kernel
theorem dL_law_2778 : decode cL_law 2778 = .ok (.iload 5, 2) := by decide +kernel
theorem dL_law_2780 : decode cL_law 2780 = .ok (.iconst 1, 1) := by decide +kernel
theorem dL_law_2781 : decode cL_law 2781 = .ok (.iadd, 1) := by decide +kernel
theorem dL_law_2782 : decode cL_law 2782 = .ok (.iaload, 1) := by decide +kernel
theorem dL_law_2783 : decode cL_law 2783 = .ok (.aload_n 0, 1) := by decide +kernel
theorem dL_law_2784 : decode cL_law 2784 = .ok (.iload 5, 2) := by decide +kernel
theorem dL_law_2786 : decode cL_law 2786 = .ok (.iconst 2, 1) := by decide +kernel
theorem dL_law_2787 : decode cL_law 2787 = .ok (.iadd, 1) := by decide +kernel
theorem dL_law_2788 : decode cL_law 2788 = .ok (.iaload, 1) := by decide +kernel
theorem dL_law_2789 : decode cL_law 2789 = .ok (.aload_n 0, 1) := by decide +kernel
theorem dL_law_2790 : decode cL_law 2790 = .ok (.iload 5, 2) := by decide +kernel
theorem dL_law_2792 : decode cL_law 2792 = .ok (.iconst 3, 1) := by decide +kernel
theorem dL_law_2793 : decode cL_law 2793 = .ok (.iadd, 1) := by decide +kernel
theorem dL_law_2794 : decode cL_law 2794 = .ok (.iaload, 1) := by decide +kernel
theorem dL_law_2795 : decode cL_law 2795 = .ok (.invokevirtual 290, 3) := by decide +kernel
theorem dL_law_2798 : decode cL_law 2798 = .ok (.istore 7, 2) := by decide +kernel
theorem dL_law_2800 : decode cL_law 2800 = .ok (.aload_n 2, 1) := by decide +kernel
theorem dL_law_2801 : decode cL_law 2801 = .ok (.invokevirtual 145, 3) := by decide +kernel
theorem dL_law_2804 : decode cL_law 2804 = .ok (.iload 6, 2) := by decide +kernel
theorem dL_law_2806 : decode cL_law 2806 = .ok (.if_icmp .eq 5, 3) := by decide +kernel
theorem dL_law_2809 : decode cL_law 2809 = .ok (.iconst 0, 1) := by decide +kernel
theorem dL_law_2810 : decode cL_law 2810 = .ok (.ireturn, 1) := by decide +kernel
theorem dL_law_2811 : decode cL_law 2811 = .ok (.iload 6, 2) := by decide +kernel
theorem dL_law_2813 : decode cL_law 2813 = .ok (.ifCond .ne 15, 3) := by decide +kernel
theorem dL_law_2816 : decode cL_law 2816 = .ok (.aload_n 3, 1) := by decide +kernel
theorem dL_law_2817 : decode cL_law 2817 = .ok (.iconst 0, 1) := by decide +kernel
theorem dL_law_2818 : decode cL_law 2818 = .ok (.laload, 1) := by decide +kernel
theorem dL_law_2819 : decode cL_law 2819 = .ok (.iload 7, 2) := by decide +kernel
theorem dL_law_2821 : decode cL_law 2821 = .ok (.i2l, 1) := by decide +kernel
theorem dL_law_2822 : decode cL_law 2822 = .ok (.lcmp, 1) := by decide +kernel
theorem dL_law_2823 : decode cL_law 2823 = .ok (.ifCond .eq 5, 3) := by decide +kernel
theorem dL_law_2826 : decode cL_law 2826 = .ok (.iconst 0, 1) := by decide +kernel
theorem dL_law_2827 : decode cL_law 2827 = .ok (.ireturn, 1) := by decide +kernel
theorem dL_law_2828 : decode cL_law 2828 = .ok (.goto 3, 3) := by decide +kernel
theorem dL_law_2831 : decode cL_law 2831 = .ok (.iinc 5 5, 3) := by decide +kernel
theorem dL_law_2834 : decode cL_law 2834 = .ok (.goto (-2806), 3) := by decide +kernel
theorem dL_law_2837 : decode cL_law 2837 = .ok (.iconst 1, 1) := by decide +kernel
theorem dL_law_2838 : decode cL_law 2838 = .ok (.ireturn, 1) := by decide +kernel

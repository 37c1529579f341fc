theorem dL_law__2789 : decode cL_law_ 2789 = .ok (.invokevirtual 260, 3) := by decide +kernel
theorem dL_law__2792 : decode cL_law_ 2792 = .ok (.aload_n 2, 1) := by decide +kernel
theorem dL_law__2793 : decode cL_law_ 2793 = .ok (.aload_n 0, 1) := by decide +kernel
theorem dL_law__2794 : decode cL_law_ 2794 = .ok (.iload 4, 2) := by decide +kernel
theorem dL_law__2796 : decode cL_law_ 2796 = .ok (.iconst 1, 1) := by decide +kernel
theorem dL_law__2797 : decode cL_law_ 2797 = .ok (.iadd, 1) := by decide +kernel
theorem dL_law__2798 : decode cL_law_ 2798 = .ok (.iaload, 1) := by decide +kernel
theorem dL_law__2799 : decode cL_law_ 2799 = .ok (.invokevirtual 263, 3) := by decide +kernel
theorem dL_law__2802 : decode cL_law_ 2802 = .ok (.if_icmp .eq 5, 3) := by decide +kernel
theorem dL_law__2805 : decode cL_law_ 2805 = .ok (.iconst 0, 1) := by decide +kernel
theorem dL_law__2806 : decode cL_law_ 2806 = .ok (.ireturn, 1) := by decide +kernel
theorem dL_law__2807 : decode cL_law_ 2807 = .ok (.iinc 4 9, 3) := by decide +kernel
theorem dL_law__2810 : decode cL_law_ 2810 = .ok (.goto (-2787), 3) := by decide +kernel
theorem dL_law__2813 : decode cL_law_ 2813 = .ok (.iconst 1, 1) := by decide +kernel
theorem dL_law__2814 : decode cL_law_ 2814 = .ok (.ireturn, 1) := by decide +kernel

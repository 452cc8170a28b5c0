theorem dL_law_904 : decode cL_law 904 = .ok (.iinc 3 5, 3) := by decide +kernel
theorem dL_law_907 : decode cL_law 907 = .ok (.goto (-889), 3) := by decide +kernel
theorem dL_law_910 : decode cL_law 910 = .ok (.iconst 1, 1) := by decide +kernel
theorem dL_law_911 : decode cL_law 911 = .ok (.ireturn, 1) := by decide +kernel


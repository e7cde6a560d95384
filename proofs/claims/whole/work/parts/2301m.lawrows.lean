theorem dL_law_2934 : decode cL_law 2934 = .ok (.lcmp, 1) := by decide +kernel
theorem dL_law_2935 : decode cL_law 2935 = .ok (.ifCond .eq 5, 3) := by decide +kernel
theorem dL_law_2938 : decode cL_law 2938 = .ok (.iconst 0, 1) := by decide +kernel
theorem dL_law_2939 : decode cL_law 2939 = .ok (.ireturn, 1) := by decide +kernel
theorem dL_law_2940 : decode cL_law 2940 = .ok (.goto 3, 3) := by decide +kernel
theorem dL_law_2943 : decode cL_law 2943 = .ok (.iinc 5 4, 3) := by decide +kernel
theorem dL_law_2946 : decode cL_law 2946 = .ok (.goto (-2918), 3) := by decide +kernel
theorem dL_law_2949 : decode cL_law 2949 = .ok (.iconst 1, 1) := by decide +kernel
theorem dL_law_2950 : decode cL_law 2950 = .ok (.ireturn, 1) := by decide +kernel

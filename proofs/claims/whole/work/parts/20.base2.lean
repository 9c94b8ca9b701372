theorem xnar0 : vp_nar .boolean 0 = 0 := by decide +kernel
theorem xnar1 : vp_nar .boolean 1 = 1 := by decide +kernel

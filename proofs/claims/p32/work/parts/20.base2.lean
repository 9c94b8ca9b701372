theorem xnar0 : vp_nar .boolean 0 = 0 := by decide +kernel
theorem xnar1 : vp_nar .boolean 1 = 1 := by decide +kernel
theorem xnarz {x : Int32} (h : bz x) : vp_nar .boolean x = x := by rcases h with h | h <;> subst h; exact xnar0; exact xnar1

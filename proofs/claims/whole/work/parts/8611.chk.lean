theorem chk_m3 : ckU (-3) = true := by decide +kernel
theorem chk_m2 : ckU (-2) = true := by decide +kernel
theorem chk_m1 : ckU (-1) = true := by decide +kernel
theorem chk_p0 : ckU (0) = true := by decide +kernel
theorem chk_p1 : ckU (1) = true := by decide +kernel

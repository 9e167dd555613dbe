theorem chk_p7 : ckU (7) = true := by decide +kernel
theorem chk_p8 : ckU (8) = true := by decide +kernel
theorem chk_p9 : ckU (9) = true := by decide +kernel
theorem chk_p10 : ckU (10) = true := by decide +kernel
theorem chk_p11 : ckU (11) = true := by decide +kernel
theorem chk_p12 : ckU (12) = true := by decide +kernel

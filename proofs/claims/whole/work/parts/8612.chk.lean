theorem chk_p2 : ckU (2) = true := by decide +kernel
theorem chk_p3 : ckU (3) = true := by decide +kernel
theorem chk_p4 : ckU (4) = true := by decide +kernel
theorem chk_p5 : ckU (5) = true := by decide +kernel
theorem chk_p6 : ckU (6) = true := by decide +kernel

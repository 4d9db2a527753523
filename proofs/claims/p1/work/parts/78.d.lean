/-! ===== cases run ===== -/
set_option maxRecDepth 1000000 in
theorem cs_23 : csP Ks 20000 918 [] = true := by decide +kernel

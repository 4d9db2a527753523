/-! ===== cases run ===== -/
set_option maxRecDepth 1000000 in
theorem cs_32 : csP noK 5000 1217 [] = true := by decide +kernel

/-! ===== cases run ===== -/
set_option maxRecDepth 1000000 in
theorem cs_13 : csP noK 5000 658 [] = true := by decide +kernel
set_option maxRecDepth 1000000 in
theorem cs_14 : csP noK 5000 681 [] = true := by decide +kernel
set_option maxRecDepth 1000000 in
theorem cs_27 : csP noK 5000 1092 [] = true := by decide +kernel
set_option maxRecDepth 1000000 in
theorem cs_22 : csP Ks 5000 885 [] = true := by decide +kernel

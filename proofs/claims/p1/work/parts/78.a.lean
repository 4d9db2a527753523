/-! ===== cases run ===== -/
set_option maxRecDepth 1000000 in
theorem pro_ok : proOk Z7 A16 = true := by decide +kernel
set_option maxRecDepth 1000000 in
theorem cs_1 : csP noK 5000 251 [] = true := by decide +kernel
set_option maxRecDepth 1000000 in
theorem cs_2 : csP noK 5000 284 [] = true := by decide +kernel
set_option maxRecDepth 1000000 in
theorem cs_3 : csP noK 5000 327 [] = true := by decide +kernel
set_option maxRecDepth 1000000 in
theorem cs_4 : csP noK 5000 370 [] = true := by decide +kernel
set_option maxRecDepth 1000000 in
theorem cs_5 : csP noK 5000 403 [] = true := by decide +kernel
set_option maxRecDepth 1000000 in
theorem cs_6 : csP noK 5000 426 [] = true := by decide +kernel
set_option maxRecDepth 1000000 in
theorem cs_7 : csP noK 5000 459 [] = true := by decide +kernel
set_option maxRecDepth 1000000 in
theorem cs_8 : csP noK 5000 492 [] = true := by decide +kernel
set_option maxRecDepth 1000000 in
theorem cs_9 : csP noK 5000 515 [] = true := by decide +kernel
set_option maxRecDepth 1000000 in
theorem cs_10 : csP noK 5000 548 [] = true := by decide +kernel
set_option maxRecDepth 1000000 in
theorem cs_11 : csP noK 5000 592 [] = true := by decide +kernel
set_option maxRecDepth 1000000 in
theorem cs_12 : csP noK 5000 635 [] = true := by decide +kernel
set_option maxRecDepth 1000000 in
theorem cs_15 : csP noK 5000 704 [] = true := by decide +kernel
set_option maxRecDepth 1000000 in
theorem cs_16 : csP noK 5000 737 [] = true := by decide +kernel
set_option maxRecDepth 1000000 in
theorem cs_17 : csP noK 5000 760 [] = true := by decide +kernel
set_option maxRecDepth 1000000 in
theorem cs_18 : csP noK 5000 773 [] = true := by decide +kernel
set_option maxRecDepth 1000000 in
theorem cs_19 : csP noK 5000 796 [] = true := by decide +kernel
set_option maxRecDepth 1000000 in
theorem cs_20 : csP noK 5000 819 [] = true := by decide +kernel
set_option maxRecDepth 1000000 in
theorem cs_24 : csP noK 5000 971 [] = true := by decide +kernel
set_option maxRecDepth 1000000 in
theorem cs_25 : csP noK 5000 1046 [] = true := by decide +kernel
set_option maxRecDepth 1000000 in
theorem cs_26 : csP noK 5000 1059 [] = true := by decide +kernel
set_option maxRecDepth 1000000 in
theorem cs_28 : csP noK 5000 1115 [] = true := by decide +kernel
set_option maxRecDepth 1000000 in
theorem cs_29 : csP noK 5000 1168 [] = true := by decide +kernel
set_option maxRecDepth 1000000 in
theorem cs_30 : csP noK 5000 1181 [] = true := by decide +kernel
set_option maxRecDepth 1000000 in
theorem cs_31 : csP noK 5000 1194 [] = true := by decide +kernel
set_option maxRecDepth 1000000 in
theorem cs_33 : csP noK 5000 1260 [] = true := by decide +kernel
set_option maxRecDepth 1000000 in
theorem cs_34 : csP noK 5000 1303 [] = true := by decide +kernel

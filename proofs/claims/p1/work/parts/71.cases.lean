/-! ===== cases ===== -/
set_option maxRecDepth 1000000 in
theorem pro_ok : proOk Z7 A16 = true := by decide +kernel
set_option maxRecDepth 1000000 in
theorem cs_1 : csOk Z7 A16 noK 5000 251 = true := by decide +kernel
set_option maxRecDepth 1000000 in
theorem cs_2 : csOk Z7 A16 noK 5000 284 = true := by decide +kernel
set_option maxRecDepth 1000000 in
theorem cs_6 : csOk Z7 A16 noK 5000 426 = true := by decide +kernel
set_option maxRecDepth 1000000 in
theorem cs_24 : csOk Z7 A16 noK 5000 971 = true := by decide +kernel

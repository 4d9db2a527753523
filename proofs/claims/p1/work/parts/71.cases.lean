/-! ===== cases ===== -/
set_option maxRecDepth 1000000 in
theorem pro_ok : proOk Z7 A16 = true := by decide +kernel
set_option maxRecDepth 1000000 in
theorem cs_23 : csOk Z7 A16 noK 5000 918 = true := by decide +kernel

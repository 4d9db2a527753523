/-! ===== cases ===== -/
set_option maxRecDepth 1000000 in
theorem pro_ok : proOk Z7 A16 = true := by decide +kernel
set_option maxRecDepth 1000000 in
theorem cs_22 : csOk Z7 A16 noK 5000 885 = true := by decide +kernel
set_option maxRecDepth 1000000 in
theorem cs_25 : csOk Z7 A16 noK 5000 1046 = true := by decide +kernel
set_option maxRecDepth 1000000 in
theorem cs_26 : csOk Z7 A16 noK 5000 1059 = true := by decide +kernel
set_option maxRecDepth 1000000 in
theorem cs_27 : csOk Z7 A16 noK 5000 1092 = true := by decide +kernel
set_option maxRecDepth 1000000 in
theorem cs_28 : csOk Z7 A16 noK 5000 1115 = true := by decide +kernel
set_option maxRecDepth 1000000 in
theorem cs_29 : csOk Z7 A16 noK 5000 1168 = true := by decide +kernel
set_option maxRecDepth 1000000 in
theorem cs_30 : csOk Z7 A16 noK 5000 1181 = true := by decide +kernel
set_option maxRecDepth 1000000 in
theorem cs_31 : csOk Z7 A16 noK 5000 1194 = true := by decide +kernel
set_option maxRecDepth 1000000 in
theorem cs_32 : csOk Z7 A16 noK 5000 1217 = true := by decide +kernel
set_option maxRecDepth 1000000 in
theorem cs_33 : csOk Z7 A16 noK 5000 1260 = true := by decide +kernel
set_option maxRecDepth 1000000 in
theorem cs_34 : csOk Z7 A16 noK 5000 1303 = true := by decide +kernel

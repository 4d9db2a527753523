/-! ===== spot, by tens of the size ===== -/
set_option maxRecDepth 1000000 in
theorem sp_43 : csP Ks 20000 842 [(1, pq 43), (2, (1, 999))] = true := by decide +kernel
set_option maxRecDepth 1000000 in
theorem sp_44 : csP Ks 20000 842 [(1, pq 44), (2, (1, 999))] = true := by decide +kernel

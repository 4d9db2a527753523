/-! ===== spot, by tens of the size ===== -/
set_option maxRecDepth 1000000 in
theorem sp_21 : csP Ks 20000 842 [(1, pq 21), (2, (1, 999))] = true := by decide +kernel
set_option maxRecDepth 1000000 in
theorem sp_22 : csP Ks 20000 842 [(1, pq 22), (2, (1, 999))] = true := by decide +kernel

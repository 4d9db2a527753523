/-! ===== spot, by tens of the size ===== -/
set_option maxRecDepth 1000000 in
theorem sp_11 : csP Ks 20000 842 [(1, pq 11), (2, (1, 999))] = true := by decide +kernel
set_option maxRecDepth 1000000 in
theorem sp_12 : csP Ks 20000 842 [(1, pq 12), (2, (1, 999))] = true := by decide +kernel

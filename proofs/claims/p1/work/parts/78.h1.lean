/-! ===== spot, by tens of the size ===== -/
set_option maxRecDepth 1000000 in
theorem sp_13 : csP Ks 20000 842 [(1, pq 13), (2, (1, 999))] = true := by decide +kernel
set_option maxRecDepth 1000000 in
theorem sp_14 : csP Ks 20000 842 [(1, pq 14), (2, (1, 999))] = true := by decide +kernel

/-! ===== spot, by tens of the size ===== -/
set_option maxRecDepth 1000000 in
theorem sp_31 : csP Ks 20000 842 [(1, pq 31), (2, (1, 999))] = true := by decide +kernel
set_option maxRecDepth 1000000 in
theorem sp_32 : csP Ks 20000 842 [(1, pq 32), (2, (1, 999))] = true := by decide +kernel

/-! ===== spot, by tens of the size ===== -/
set_option maxRecDepth 1000000 in
theorem sp_23 : csP Ks 20000 842 [(1, pq 23), (2, (1, 999))] = true := by decide +kernel
set_option maxRecDepth 1000000 in
theorem sp_24 : csP Ks 20000 842 [(1, pq 24), (2, (1, 999))] = true := by decide +kernel

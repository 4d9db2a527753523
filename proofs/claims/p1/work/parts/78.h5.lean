/-! ===== spot, by tens of the size ===== -/
set_option maxRecDepth 1000000 in
theorem sp_33 : csP Ks 20000 842 [(1, pq 33), (2, (1, 999))] = true := by decide +kernel
set_option maxRecDepth 1000000 in
theorem sp_34 : csP Ks 20000 842 [(1, pq 34), (2, (1, 999))] = true := by decide +kernel

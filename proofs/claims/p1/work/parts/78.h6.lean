/-! ===== spot, by tens of the size ===== -/
set_option maxRecDepth 1000000 in
theorem sp_41 : csP Ks 20000 842 [(1, pq 41), (2, (1, 999))] = true := by decide +kernel
set_option maxRecDepth 1000000 in
theorem sp_42 : csP Ks 20000 842 [(1, pq 42), (2, (1, 999))] = true := by decide +kernel

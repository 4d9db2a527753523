/-! ===== box, by tens of the size ===== -/
set_option maxRecDepth 1000000 in
theorem bx_11 : csP Ks 20000 188 [(4, pq 11), (5, (1, 999))] = true := by decide +kernel
set_option maxRecDepth 1000000 in
theorem bx_12 : csP Ks 20000 188 [(4, pq 12), (5, (1, 999))] = true := by decide +kernel
set_option maxRecDepth 1000000 in
theorem bx_13 : csP Ks 20000 188 [(4, pq 13), (5, (1, 999))] = true := by decide +kernel
set_option maxRecDepth 1000000 in
theorem bx_14 : csP Ks 20000 188 [(4, pq 14), (5, (1, 999))] = true := by decide +kernel

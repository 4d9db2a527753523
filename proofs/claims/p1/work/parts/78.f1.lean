/-! ===== box, by tens of the size ===== -/
set_option maxRecDepth 1000000 in
theorem bx_21 : csP Ks 20000 188 [(4, pq 21), (5, (1, 999))] = true := by decide +kernel
set_option maxRecDepth 1000000 in
theorem bx_22 : csP Ks 20000 188 [(4, pq 22), (5, (1, 999))] = true := by decide +kernel
set_option maxRecDepth 1000000 in
theorem bx_23 : csP Ks 20000 188 [(4, pq 23), (5, (1, 999))] = true := by decide +kernel
set_option maxRecDepth 1000000 in
theorem bx_24 : csP Ks 20000 188 [(4, pq 24), (5, (1, 999))] = true := by decide +kernel

/-! ===== box, by tens of the size ===== -/
set_option maxRecDepth 1000000 in
theorem bx_31 : csP Ks 20000 188 [(4, pq 31), (5, (1, 999))] = true := by decide +kernel
set_option maxRecDepth 1000000 in
theorem bx_32 : csP Ks 20000 188 [(4, pq 32), (5, (1, 999))] = true := by decide +kernel
set_option maxRecDepth 1000000 in
theorem bx_33 : csP Ks 20000 188 [(4, pq 33), (5, (1, 999))] = true := by decide +kernel
set_option maxRecDepth 1000000 in
theorem bx_34 : csP Ks 20000 188 [(4, pq 34), (5, (1, 999))] = true := by decide +kernel

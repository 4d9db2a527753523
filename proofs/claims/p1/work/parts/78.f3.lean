/-! ===== box, by tens of the size ===== -/
set_option maxRecDepth 1000000 in
theorem bx_41 : csP Ks 20000 188 [(4, pq 41), (5, (1, 999))] = true := by decide +kernel
set_option maxRecDepth 1000000 in
theorem bx_42 : csP Ks 20000 188 [(4, pq 42), (5, (1, 999))] = true := by decide +kernel
set_option maxRecDepth 1000000 in
theorem bx_43 : csP Ks 20000 188 [(4, pq 43), (5, (1, 999))] = true := by decide +kernel
set_option maxRecDepth 1000000 in
theorem bx_44 : csP Ks 20000 188 [(4, pq 44), (5, (1, 999))] = true := by decide +kernel

/-! ===== box, by tens of the size ===== -/
set_option maxRecDepth 1000000 in
theorem bx_a : csP Ks 20000 188 [(5, (loV, 0))] = true := by decide +kernel
set_option maxRecDepth 1000000 in
theorem bx_b : csP Ks 20000 188 [(5, (1000, hiV))] = true := by decide +kernel
set_option maxRecDepth 1000000 in
theorem bx_c : csP Ks 20000 188 [(4, (loV, -1)), (5, (1, 999))] = true := by decide +kernel
set_option maxRecDepth 1000000 in
theorem bx_d : csP Ks 20000 188 [(4, (500, hiV)), (5, (1, 999))] = true := by decide +kernel
set_option maxRecDepth 1000000 in
theorem bx_0 : csP Ks 20000 188 [(4, pq 0), (5, (1, 999))] = true := by decide +kernel
set_option maxRecDepth 1000000 in
theorem bx_1 : csP Ks 20000 188 [(4, pq 1), (5, (1, 999))] = true := by decide +kernel
set_option maxRecDepth 1000000 in
theorem bx_2 : csP Ks 20000 188 [(4, pq 2), (5, (1, 999))] = true := by decide +kernel
set_option maxRecDepth 1000000 in
theorem bx_3 : csP Ks 20000 188 [(4, pq 3), (5, (1, 999))] = true := by decide +kernel
set_option maxRecDepth 1000000 in
theorem bx_4 : csP Ks 20000 188 [(4, pq 4), (5, (1, 999))] = true := by decide +kernel
set_option maxRecDepth 1000000 in
theorem bx_5 : csP Ks 20000 188 [(4, pq 5), (5, (1, 999))] = true := by decide +kernel
set_option maxRecDepth 1000000 in
theorem bx_6 : csP Ks 20000 188 [(4, pq 6), (5, (1, 999))] = true := by decide +kernel
set_option maxRecDepth 1000000 in
theorem bx_7 : csP Ks 20000 188 [(4, pq 7), (5, (1, 999))] = true := by decide +kernel
set_option maxRecDepth 1000000 in
theorem bx_8 : csP Ks 20000 188 [(4, pq 8), (5, (1, 999))] = true := by decide +kernel
set_option maxRecDepth 1000000 in
theorem bx_9 : csP Ks 20000 188 [(4, pq 9), (5, (1, 999))] = true := by decide +kernel
set_option maxRecDepth 1000000 in
theorem bx_10 : csP Ks 20000 188 [(4, pq 10), (5, (1, 999))] = true := by decide +kernel
set_option maxRecDepth 1000000 in
theorem bx_15 : csP Ks 20000 188 [(4, pq 15), (5, (1, 999))] = true := by decide +kernel
set_option maxRecDepth 1000000 in
theorem bx_16 : csP Ks 20000 188 [(4, pq 16), (5, (1, 999))] = true := by decide +kernel
set_option maxRecDepth 1000000 in
theorem bx_17 : csP Ks 20000 188 [(4, pq 17), (5, (1, 999))] = true := by decide +kernel
set_option maxRecDepth 1000000 in
theorem bx_18 : csP Ks 20000 188 [(4, pq 18), (5, (1, 999))] = true := by decide +kernel
set_option maxRecDepth 1000000 in
theorem bx_19 : csP Ks 20000 188 [(4, pq 19), (5, (1, 999))] = true := by decide +kernel
set_option maxRecDepth 1000000 in
theorem bx_20 : csP Ks 20000 188 [(4, pq 20), (5, (1, 999))] = true := by decide +kernel
set_option maxRecDepth 1000000 in
theorem bx_25 : csP Ks 20000 188 [(4, pq 25), (5, (1, 999))] = true := by decide +kernel
set_option maxRecDepth 1000000 in
theorem bx_26 : csP Ks 20000 188 [(4, pq 26), (5, (1, 999))] = true := by decide +kernel
set_option maxRecDepth 1000000 in
theorem bx_27 : csP Ks 20000 188 [(4, pq 27), (5, (1, 999))] = true := by decide +kernel
set_option maxRecDepth 1000000 in
theorem bx_28 : csP Ks 20000 188 [(4, pq 28), (5, (1, 999))] = true := by decide +kernel
set_option maxRecDepth 1000000 in
theorem bx_29 : csP Ks 20000 188 [(4, pq 29), (5, (1, 999))] = true := by decide +kernel
set_option maxRecDepth 1000000 in
theorem bx_30 : csP Ks 20000 188 [(4, pq 30), (5, (1, 999))] = true := by decide +kernel
set_option maxRecDepth 1000000 in
theorem bx_35 : csP Ks 20000 188 [(4, pq 35), (5, (1, 999))] = true := by decide +kernel
set_option maxRecDepth 1000000 in
theorem bx_36 : csP Ks 20000 188 [(4, pq 36), (5, (1, 999))] = true := by decide +kernel
set_option maxRecDepth 1000000 in
theorem bx_37 : csP Ks 20000 188 [(4, pq 37), (5, (1, 999))] = true := by decide +kernel
set_option maxRecDepth 1000000 in
theorem bx_38 : csP Ks 20000 188 [(4, pq 38), (5, (1, 999))] = true := by decide +kernel
set_option maxRecDepth 1000000 in
theorem bx_39 : csP Ks 20000 188 [(4, pq 39), (5, (1, 999))] = true := by decide +kernel
set_option maxRecDepth 1000000 in
theorem bx_40 : csP Ks 20000 188 [(4, pq 40), (5, (1, 999))] = true := by decide +kernel
set_option maxRecDepth 1000000 in
theorem bx_45 : csP Ks 20000 188 [(4, pq 45), (5, (1, 999))] = true := by decide +kernel
set_option maxRecDepth 1000000 in
theorem bx_46 : csP Ks 20000 188 [(4, pq 46), (5, (1, 999))] = true := by decide +kernel
set_option maxRecDepth 1000000 in
theorem bx_47 : csP Ks 20000 188 [(4, pq 47), (5, (1, 999))] = true := by decide +kernel
set_option maxRecDepth 1000000 in
theorem bx_48 : csP Ks 20000 188 [(4, pq 48), (5, (1, 999))] = true := by decide +kernel
set_option maxRecDepth 1000000 in
theorem bx_49 : csP Ks 20000 188 [(4, pq 49), (5, (1, 999))] = true := by decide +kernel

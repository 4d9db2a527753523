/-! ===== spot, by tens of the size ===== -/
set_option maxRecDepth 1000000 in
theorem sp_a : csP Ks 20000 842 [(2, (loV, 0))] = true := by decide +kernel
set_option maxRecDepth 1000000 in
theorem sp_b : csP Ks 20000 842 [(2, (1000, hiV))] = true := by decide +kernel
set_option maxRecDepth 1000000 in
theorem sp_c : csP Ks 20000 842 [(1, (loV, -1)), (2, (1, 999))] = true := by decide +kernel
set_option maxRecDepth 1000000 in
theorem sp_d : csP Ks 20000 842 [(1, (500, hiV)), (2, (1, 999))] = true := by decide +kernel
set_option maxRecDepth 1000000 in
theorem sp_0 : csP Ks 20000 842 [(1, pq 0), (2, (1, 999))] = true := by decide +kernel
set_option maxRecDepth 1000000 in
theorem sp_1 : csP Ks 20000 842 [(1, pq 1), (2, (1, 999))] = true := by decide +kernel
set_option maxRecDepth 1000000 in
theorem sp_2 : csP Ks 20000 842 [(1, pq 2), (2, (1, 999))] = true := by decide +kernel
set_option maxRecDepth 1000000 in
theorem sp_3 : csP Ks 20000 842 [(1, pq 3), (2, (1, 999))] = true := by decide +kernel
set_option maxRecDepth 1000000 in
theorem sp_4 : csP Ks 20000 842 [(1, pq 4), (2, (1, 999))] = true := by decide +kernel
set_option maxRecDepth 1000000 in
theorem sp_5 : csP Ks 20000 842 [(1, pq 5), (2, (1, 999))] = true := by decide +kernel
set_option maxRecDepth 1000000 in
theorem sp_6 : csP Ks 20000 842 [(1, pq 6), (2, (1, 999))] = true := by decide +kernel
set_option maxRecDepth 1000000 in
theorem sp_7 : csP Ks 20000 842 [(1, pq 7), (2, (1, 999))] = true := by decide +kernel
set_option maxRecDepth 1000000 in
theorem sp_8 : csP Ks 20000 842 [(1, pq 8), (2, (1, 999))] = true := by decide +kernel
set_option maxRecDepth 1000000 in
theorem sp_9 : csP Ks 20000 842 [(1, pq 9), (2, (1, 999))] = true := by decide +kernel
set_option maxRecDepth 1000000 in
theorem sp_10 : csP Ks 20000 842 [(1, pq 10), (2, (1, 999))] = true := by decide +kernel
set_option maxRecDepth 1000000 in
theorem sp_15 : csP Ks 20000 842 [(1, pq 15), (2, (1, 999))] = true := by decide +kernel
set_option maxRecDepth 1000000 in
theorem sp_16 : csP Ks 20000 842 [(1, pq 16), (2, (1, 999))] = true := by decide +kernel
set_option maxRecDepth 1000000 in
theorem sp_17 : csP Ks 20000 842 [(1, pq 17), (2, (1, 999))] = true := by decide +kernel
set_option maxRecDepth 1000000 in
theorem sp_18 : csP Ks 20000 842 [(1, pq 18), (2, (1, 999))] = true := by decide +kernel
set_option maxRecDepth 1000000 in
theorem sp_19 : csP Ks 20000 842 [(1, pq 19), (2, (1, 999))] = true := by decide +kernel
set_option maxRecDepth 1000000 in
theorem sp_20 : csP Ks 20000 842 [(1, pq 20), (2, (1, 999))] = true := by decide +kernel
set_option maxRecDepth 1000000 in
theorem sp_25 : csP Ks 20000 842 [(1, pq 25), (2, (1, 999))] = true := by decide +kernel
set_option maxRecDepth 1000000 in
theorem sp_26 : csP Ks 20000 842 [(1, pq 26), (2, (1, 999))] = true := by decide +kernel
set_option maxRecDepth 1000000 in
theorem sp_27 : csP Ks 20000 842 [(1, pq 27), (2, (1, 999))] = true := by decide +kernel
set_option maxRecDepth 1000000 in
theorem sp_28 : csP Ks 20000 842 [(1, pq 28), (2, (1, 999))] = true := by decide +kernel
set_option maxRecDepth 1000000 in
theorem sp_29 : csP Ks 20000 842 [(1, pq 29), (2, (1, 999))] = true := by decide +kernel
set_option maxRecDepth 1000000 in
theorem sp_30 : csP Ks 20000 842 [(1, pq 30), (2, (1, 999))] = true := by decide +kernel
set_option maxRecDepth 1000000 in
theorem sp_35 : csP Ks 20000 842 [(1, pq 35), (2, (1, 999))] = true := by decide +kernel
set_option maxRecDepth 1000000 in
theorem sp_36 : csP Ks 20000 842 [(1, pq 36), (2, (1, 999))] = true := by decide +kernel
set_option maxRecDepth 1000000 in
theorem sp_37 : csP Ks 20000 842 [(1, pq 37), (2, (1, 999))] = true := by decide +kernel
set_option maxRecDepth 1000000 in
theorem sp_38 : csP Ks 20000 842 [(1, pq 38), (2, (1, 999))] = true := by decide +kernel
set_option maxRecDepth 1000000 in
theorem sp_39 : csP Ks 20000 842 [(1, pq 39), (2, (1, 999))] = true := by decide +kernel
set_option maxRecDepth 1000000 in
theorem sp_40 : csP Ks 20000 842 [(1, pq 40), (2, (1, 999))] = true := by decide +kernel
set_option maxRecDepth 1000000 in
theorem sp_45 : csP Ks 20000 842 [(1, pq 45), (2, (1, 999))] = true := by decide +kernel
set_option maxRecDepth 1000000 in
theorem sp_46 : csP Ks 20000 842 [(1, pq 46), (2, (1, 999))] = true := by decide +kernel
set_option maxRecDepth 1000000 in
theorem sp_47 : csP Ks 20000 842 [(1, pq 47), (2, (1, 999))] = true := by decide +kernel
set_option maxRecDepth 1000000 in
theorem sp_48 : csP Ks 20000 842 [(1, pq 48), (2, (1, 999))] = true := by decide +kernel
set_option maxRecDepth 1000000 in
theorem sp_49 : csP Ks 20000 842 [(1, pq 49), (2, (1, 999))] = true := by decide +kernel

/-! ===== contracts, checked ===== -/
/-- yX8_liesAt -/
def kc_94 : Con := (163, [(2, none, 213, 0, 1), (1, none, 0, 0, 0), (1, (some ((-9223372036854775808), 9223372036854775807)), 0, 0, 0), (1, (some ((-9223372036854775808), 9223372036854775807)), 0, 0, 0)], [(54538, (some (0, 63)))], [], [(121856, ([((1, 54538), 1)], 0)), (122112, ([((1, 54538), 1)], 0))], [], [((some (0, (some (0, 2)))), [], [], [])])
def kt_94 : List (Nat × Nat × LpT) := [(163, 17, ([(7, 0, (some (0, 2))), (8, 0, (some (0, 63)))], [10], [], [], [], [], ([((0, 8), (-1))], 64), []))]
set_option maxRecDepth 1000000 in
theorem kk_94 : chkC [] (mkT kt_94) 3000 kc_94 = true := by decide +kernel
theorem ko_94 {z : Int → Int} (hz : zOK z) : conOK z kc_94 := chk_ok hz (K := []) (fun _ h => absurd h List.not_mem_nil) kk_94
/-- yX8_liesAt -/
def kc_95 : Con := (163, [(2, none, 213, 0, 1), (1, (some ((-9223372036854775808), 9223372036854775807)), 0, 0, 0), (1, (some ((-9223372036854775808), 9223372036854775807)), 0, 0, 0), (1, (some ((-9223372036854775808), 9223372036854775807)), 0, 0, 0)], [(54538, (some (0, 63)))], [], [(121856, ([((1, 54538), 1)], 0)), (122112, ([((1, 54538), 1)], 0))], [], [((some (0, (some (0, 2)))), [], [], [])])
def kt_95 : List (Nat × Nat × LpT) := [(163, 17, ([(7, 0, (some (0, 2))), (8, 0, (some (0, 63)))], [10], [], [], [], [], ([((0, 8), (-1))], 64), []))]
set_option maxRecDepth 1000000 in
theorem kk_95 : chkC [] (mkT kt_95) 3000 kc_95 = true := by decide +kernel
theorem ko_95 {z : Int → Int} (hz : zOK z) : conOK z kc_95 := chk_ok hz (K := []) (fun _ h => absurd h List.not_mem_nil) kk_95

/-! ===== contracts, checked ===== -/
/-- yX4_holds -/
def kc_72 : Con := (54, [(2, none, 148, 5, 7), (1, none, 0, 0, 0), (1, none, 0, 0, 0), (1, (some ((-9223372036854775808), 9223372036854775807)), 0, 0, 0)], [], [], [], [], [((some (0, (some (0, 2)))), [], [], [])])
def kt_72 : List (Nat × Nat × LpT) := [(54, 17, ([(7, 0, (some (0, 2))), (8, 0, (some (0, 28)))], [10, 12, 14], [], [], [], [], ([((0, 8), (-1))], 29), []))]
set_option maxRecDepth 1000000 in
theorem kk_72 : chkC [] (mkT kt_72) 3000 kc_72 = true := by decide +kernel
theorem ko_72 {z : Int → Int} (hz : zOK z) : conOK z kc_72 := chk_ok hz (K := []) (fun _ h => absurd h List.not_mem_nil) kk_72

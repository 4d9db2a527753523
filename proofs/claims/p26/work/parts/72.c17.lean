/-! ===== contracts, checked ===== -/
/-- yX8_centreOf -/
def kc_93 : Con := (162, [(2, none, 213, 0, 1), (0, (some (0, 6)), 0, 0, 0), (0, (some ((-2147483648), 2147483647)), 0, 0, 0), (0, (some ((-2147483648), 2147483647)), 0, 0, 0)], [], [], [(121088, ([], 64))], [], [((some (0, none)), [], [], [])])
def kt_93 : List (Nat × Nat × LpT) := [(162, 189, ([(6, 0, none), (7, 0, (some (0, 7)))], [], [], [], [], [], ([((0, 7), (-1))], 8), []))]
set_option maxRecDepth 1000000 in
theorem kk_93 : chkC [] (mkT kt_93) 3000 kc_93 = true := by decide +kernel
theorem ko_93 {z : Int → Int} (hz : zOK z) : conOK z kc_93 := chk_ok hz (K := []) (fun _ h => absurd h List.not_mem_nil) kk_93

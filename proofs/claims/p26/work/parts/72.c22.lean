/-! ===== contracts, checked ===== -/
/-- yX8_bits -/
def kc_100 : Con := (165, [(0, (some (0, 127)), 0, 0, 0)], [], [], [], [], [((some (0, (some (0, 7)))), [], [], [])])
def kt_100 : List (Nat × Nat × LpT) := []
set_option maxRecDepth 1000000 in
theorem kk_100 : chkS [] (mkT kt_100) 3000 0 kc_100 = true := by decide +kernel
theorem ko_100 {z : Int → Int} (hz : zOK z) : conOK z kc_100 := chkS_ok hz (K := []) (fun _ h => absurd h List.not_mem_nil) kk_100

/-! ===== contracts, checked ===== -/
/-- yJ6_bitCount_0f7a4 -/
def kc_77 : Con := (217, [(0, (some (0, 127)), 0, 0, 0)], [], [], [], [], [((some (0, (some (0, 7)))), [], [], [])])
def kt_77 : List (Nat × Nat × LpT) := []
set_option maxRecDepth 1000000 in
theorem kk_77 : chkS [] (mkT kt_77) 3000 0 kc_77 = true := by decide +kernel
theorem ko_77 {z : Int → Int} (hz : zOK z) : conOK z kc_77 := chkS_ok hz (K := []) (fun _ h => absurd h List.not_mem_nil) kk_77

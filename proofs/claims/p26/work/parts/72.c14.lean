/-! ===== contracts, checked ===== -/
/-- yX8_contactOf -/
def kc_79 : Con := (148, [(2, none, 213, 0, 1), (0, (some (0, 7)), 0, 0, 0), (0, (some (0, 7)), 0, 0, 0)], [], [], [], [], [((some (0, (some (0, 144)))), [], [], [])])
def kt_79 : List (Nat × Nat × LpT) := []
set_option maxRecDepth 1000000 in
theorem kk_79 : chkC [kc_15, kc_14] (mkT kt_79) 3000 kc_79 = true := by decide +kernel
theorem ko_79 {z : Int → Int} (hz : zOK z) : conOK z kc_79 := chk_ok hz (K := [kc_15, kc_14]) (List.forall_mem_cons.mpr ⟨ko_15 hz, List.forall_mem_cons.mpr ⟨ko_14 hz, fun _ h => absurd h List.not_mem_nil⟩⟩) kk_79
/-- yX8_restingOn -/
def kc_80 : Con := (147, [(2, none, 213, 0, 1), (0, (some (0, 6)), 0, 0, 0), (0, (some ((-2147483648), 2147483647)), 0, 0, 0)], [], [], [], [], [((some (0, (some (0, 127)))), [], [], [])])
def kt_80 : List (Nat × Nat × LpT) := [(147, 5, ([(3, 0, (some (0, 127))), (4, 0, (some (0, 7)))], [], [], [], [], [], ([((0, 4), (-1))], 8), []))]
set_option maxRecDepth 1000000 in
theorem kk_80 : chkC [kc_79] (mkT kt_80) 3000 kc_80 = true := by decide +kernel
theorem ko_80 {z : Int → Int} (hz : zOK z) : conOK z kc_80 := chk_ok hz (K := [kc_79]) (List.forall_mem_cons.mpr ⟨ko_79 hz, fun _ h => absurd h List.not_mem_nil⟩) kk_80
/-- yX8_inHeight -/
def kc_81 : Con := (150, [(2, none, 213, 0, 1), (0, (some (0, 7)), 0, 0, 0), (0, (some (0, 7)), 0, 0, 0)], [], [], [], [], [((some (0, none)), [], [], [])])
def kt_81 : List (Nat × Nat × LpT) := []
set_option maxRecDepth 1000000 in
theorem kk_81 : chkC [kc_15] (mkT kt_81) 3000 kc_81 = true := by decide +kernel
theorem ko_81 {z : Int → Int} (hz : zOK z) : conOK z kc_81 := chk_ok hz (K := [kc_15]) (List.forall_mem_cons.mpr ⟨ko_15 hz, fun _ h => absurd h List.not_mem_nil⟩) kk_81
/-- yX8_inWay -/
def kc_82 : Con := (149, [(2, none, 213, 0, 1), (0, (some (0, 6)), 0, 0, 0), (0, (some ((-2147483648), 2147483647)), 0, 0, 0)], [], [], [], [], [((some (0, (some (0, 127)))), [], [], [])])
def kt_82 : List (Nat × Nat × LpT) := [(149, 5, ([(3, 0, (some (0, 127))), (4, 0, (some (0, 7)))], [], [], [], [], [], ([((0, 4), (-1))], 8), []))]
set_option maxRecDepth 1000000 in
theorem kk_82 : chkC [kc_13, kc_81] (mkT kt_82) 3000 kc_82 = true := by decide +kernel
theorem ko_82 {z : Int → Int} (hz : zOK z) : conOK z kc_82 := chk_ok hz (K := [kc_13, kc_81]) (List.forall_mem_cons.mpr ⟨ko_13 hz, List.forall_mem_cons.mpr ⟨ko_81 hz, fun _ h => absurd h List.not_mem_nil⟩⟩) kk_82
/-- yX8_handsDown -/
def kc_83 : Con := (153, [(2, none, 213, 0, 1), (0, (some (0, 6)), 0, 0, 0), (0, (some ((-2147483648), 2147483647)), 0, 0, 0)], [], [], [(120832, ([], 8)), (121088, ([], 64))], [(216, 0, 6), (217, 0, 54)], [(none, [], [], [])])
def kt_83 : List (Nat × Nat × LpT) := [(153, 5, ([(3, 0, (some (0, 1008))), (4, 0, (some (0, 7)))], [], [], [], [(([((0, 4), 144), ((0, 3), (-1))], 0), 0, 2000)], [], ([((0, 4), (-1))], 8), [])), (153, 87, ([(5, 0, none), (6, 0, (some (0, 7)))], [], [], [], [], [], ([((0, 6), (-1))], 8), [])), (153, 160, ([(5, 0, none), (6, 0, (some (0, 7)))], [], [], [], [], [], ([((0, 6), (-1))], 8), [])), (153, 226, ([(6, 0, (some (0, 7)))], [], [], [], [], [], ([((0, 6), (-1))], 8), []))]
set_option maxRecDepth 1000000 in
theorem kk_83 : chkC [kc_79] (mkT kt_83) 3000 kc_83 = true := by decide +kernel
theorem ko_83 {z : Int → Int} (hz : zOK z) : conOK z kc_83 := chk_ok hz (K := [kc_79]) (List.forall_mem_cons.mpr ⟨ko_79 hz, fun _ h => absurd h List.not_mem_nil⟩) kk_83

/-! ===== contracts, checked ===== -/
/-- yX8_liesAt -/
def kc_96 : Con := (163, [(2, none, 213, 0, 1), (1, (some ((-9223372036854775808), 9223372036854775807)), 0, 0, 0), (1, none, 0, 0, 0), (1, (some ((-9223372036854775808), 9223372036854775807)), 0, 0, 0)], [(54538, (some (0, 63)))], [], [(121856, ([((1, 54538), 1)], 0)), (122112, ([((1, 54538), 1)], 0))], [], [((some (0, (some (0, 2)))), [], [], [])])
def kt_96 : List (Nat × Nat × LpT) := [(163, 17, ([(7, 0, (some (0, 2))), (8, 0, (some (0, 63)))], [10], [], [], [], [], ([((0, 8), (-1))], 64), []))]
set_option maxRecDepth 1000000 in
theorem kk_96 : chkC [] (mkT kt_96) 3000 kc_96 = true := by decide +kernel
theorem ko_96 {z : Int → Int} (hz : zOK z) : conOK z kc_96 := chk_ok hz (K := []) (fun _ h => absurd h List.not_mem_nil) kk_96
/-- yX8_liesOf -/
def kc_97 : Con := (155, [(2, none, 213, 0, 1), (0, (some (0, 6)), 0, 0, 0), (0, (some ((-2147483648), 2147483647)), 0, 0, 0), (0, (some ((-2147483648), 2147483647)), 0, 0, 0), (0, (some ((-2147483648), 2147483647)), 0, 0, 0)], [], [], [(121088, ([], 64)), (120832, ([], 8))], [(213, 9, 10), (218, 0, 31), (219, 0, 31), (220, 0, 62), (221, 0, 62)], [((some (0, (some (0, 2)))), [], [], [])])
def kt_97 : List (Nat × Nat × LpT) := []
set_option maxRecDepth 1000000 in
theorem kk_97 : chkC [kc_92, kc_93, kc_94, kc_95, kc_96] (mkT kt_97) 3000 kc_97 = true := by decide +kernel
theorem ko_97 {z : Int → Int} (hz : zOK z) : conOK z kc_97 := chk_ok hz (K := [kc_92, kc_93, kc_94, kc_95, kc_96]) (List.forall_mem_cons.mpr ⟨ko_92 hz, List.forall_mem_cons.mpr ⟨ko_93 hz, List.forall_mem_cons.mpr ⟨ko_94 hz, List.forall_mem_cons.mpr ⟨ko_95 hz, List.forall_mem_cons.mpr ⟨ko_96 hz, fun _ h => absurd h List.not_mem_nil⟩⟩⟩⟩⟩) kk_97

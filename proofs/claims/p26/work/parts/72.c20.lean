/-! ===== contracts, checked ===== -/
/-- yX8_failing -/
def kc_98 : Con := (151, [(2, none, 213, 0, 1), (0, (some ((-2147483648), 2147483647)), 0, 0, 0), (0, (some ((-2147483648), 2147483647)), 0, 0, 0), (0, (some ((-2147483648), 2147483647)), 0, 0, 0)], [], [], [], [(213, 9, 14), (216, 0, 7), (217, 0, 63), (218, 0, 31), (219, 0, 31), (220, 0, 62), (221, 0, 62)], [((some (0, (some (0, 127)))), [], [], [(120832, ([], 8)), (121088, ([], 64)), (120075, ([], 1)), (120076, ([], 1)), (120077, ([], 1)), (120078, ([], 1))])])
def kt_98 : List (Nat × Nat × LpT) := [(151, 28, ([(4, 0, (some (0, 7)))], [], [54539, 54540, 54541, 54542], [], [], [], ([((0, 4), (-1))], 8), []))]
set_option maxRecDepth 1000000 in
theorem kk_98 : chkC [kc_84, kc_85, kc_23, kc_22, kc_97] (mkT kt_98) 3000 kc_98 = true := by decide +kernel
theorem ko_98 {z : Int → Int} (hz : zOK z) : conOK z kc_98 := chk_ok hz (K := [kc_84, kc_85, kc_23, kc_22, kc_97]) (List.forall_mem_cons.mpr ⟨ko_84 hz, List.forall_mem_cons.mpr ⟨ko_85 hz, List.forall_mem_cons.mpr ⟨ko_23 hz, List.forall_mem_cons.mpr ⟨ko_22 hz, List.forall_mem_cons.mpr ⟨ko_97 hz, fun _ h => absurd h List.not_mem_nil⟩⟩⟩⟩⟩) kk_98

/-! ===== contracts, checked ===== -/
/-- yX8_isHeld -/
def kc_85 : Con := (154, [(2, none, 213, 0, 1), (0, (some (0, 6)), 0, 0, 0), (0, (some ((-2147483648), 2147483647)), 0, 0, 0)], [], [], [], [], [((some (0, (some (0, 1)))), [], [], [])])
def kt_85 : List (Nat × Nat × LpT) := [(154, 21, ([(3, 0, (some (0, 1))), (4, 0, (some (0, 7)))], [], [], [], [], [], ([((0, 4), (-1))], 8), []))]
set_option maxRecDepth 1000000 in
theorem kk_85 : chkC [kc_79] (mkT kt_85) 3000 kc_85 = true := by decide +kernel
theorem ko_85 {z : Int → Int} (hz : zOK z) : conOK z kc_85 := chk_ok hz (K := [kc_79]) (List.forall_mem_cons.mpr ⟨ko_79 hz, fun _ h => absurd h List.not_mem_nil⟩) kk_85
/-- yX8_more -/
def kc_86 : Con := (135, [(0, (some ((-2147483648), 2147483647)), 0, 0, 0), (0, (some ((-2147483648), 2147483647)), 0, 0, 0)], [], [], [], [], [((some (0, (some ((-2147483648), 2147483647)))), [], [], [])])
def kt_86 : List (Nat × Nat × LpT) := []
set_option maxRecDepth 1000000 in
theorem kk_86 : chkC [] (mkT kt_86) 3000 kc_86 = true := by decide +kernel
theorem ko_86 {z : Int → Int} (hz : zOK z) : conOK z kc_86 := chk_ok hz (K := []) (fun _ h => absurd h List.not_mem_nil) kk_86
/-- yX8_less -/
def kc_87 : Con := (159, [(0, (some ((-2147483648), 2147483647)), 0, 0, 0), (0, (some ((-2147483648), 2147483647)), 0, 0, 0)], [], [], [], [], [((some (0, (some ((-2147483648), 2147483647)))), [], [], [])])
def kt_87 : List (Nat × Nat × LpT) := []
set_option maxRecDepth 1000000 in
theorem kk_87 : chkC [] (mkT kt_87) 3000 kc_87 = true := by decide +kernel
theorem ko_87 {z : Int → Int} (hz : zOK z) : conOK z kc_87 := chk_ok hz (K := []) (fun _ h => absurd h List.not_mem_nil) kk_87
/-- yX8_point -/
def kc_88 : Con := (158, [(2, none, 213, 0, 1), (0, (some ((-2147483648), 2147483647)), 0, 0, 0), (0, (some ((-2147483648), 2147483647)), 0, 0, 0)], [(54537, (some (0, 31)))], [], [(121344, ([((1, 54537), 1)], 0)), (121600, ([((1, 54537), 1)], 0))], [(213, 9, 9), (218, 0, 31), (219, 0, 31)], [(none, [(54537, .inr ([((3, 3), 1)], 1))], [], [(121344, ([((1, 54537), 1)], 0)), (121600, ([((1, 54537), 1)], 0))])])
def kt_88 : List (Nat × Nat × LpT) := [(158, 5, ([(3, 0, (some (0, 30)))], [], [], [], [(([((1, 54537), 1), ((0, 3), (-1))], 0), 0, 100)], [], ([((0, 3), 1)], 1), [54537]))]
set_option maxRecDepth 1000000 in
theorem kk_88 : chkC [] (mkT kt_88) 3000 kc_88 = true := by decide +kernel
theorem ko_88 {z : Int → Int} (hz : zOK z) : conOK z kc_88 := chk_ok hz (K := []) (fun _ h => absurd h List.not_mem_nil) kk_88
/-- yX8_rectangle -/
def kc_89 : Con := (157, [(2, none, 213, 0, 1), (0, (some ((-2147483648), 2147483647)), 0, 0, 0), (0, (some ((-2147483648), 2147483647)), 0, 0, 0), (0, (some ((-2147483648), 2147483647)), 0, 0, 0), (0, (some ((-2147483648), 2147483647)), 0, 0, 0)], [(54537, (some (0, 28)))], [], [(121344, ([((1, 54537), 1)], 0)), (121600, ([((1, 54537), 1)], 0))], [(213, 9, 9), (218, 0, 31), (219, 0, 31)], [(none, [(54537, .inr ([((3, 5), 1)], 4))], [], [(121344, ([((1, 54537), 1)], 0)), (121600, ([((1, 54537), 1)], 0))])])
def kt_89 : List (Nat × Nat × LpT) := []
set_option maxRecDepth 1000000 in
theorem kk_89 : chkC [kc_88] (mkT kt_89) 3000 kc_89 = true := by decide +kernel
theorem ko_89 {z : Int → Int} (hz : zOK z) : conOK z kc_89 := chk_ok hz (K := [kc_88]) (List.forall_mem_cons.mpr ⟨ko_88 hz, fun _ h => absurd h List.not_mem_nil⟩) kk_89
/-- yX8_cross -/
def kc_90 : Con := (161, [(2, none, 213, 0, 1), (0, (some (0, 63)), 0, 0, 0), (0, (some (0, 63)), 0, 0, 0), (0, (some ((-2147483648), 2147483647)), 0, 0, 0), (0, (some ((-2147483648), 2147483647)), 0, 0, 0)], [], [(([((3, 2), 1), ((3, 1), (-1))], 0), 0, 100)], [(121856, ([((3, 2), 1)], 1)), (122112, ([((3, 2), 1)], 1))], [], [((some (0, none)), [], [], [])])
def kt_90 : List (Nat × Nat × LpT) := []
set_option maxRecDepth 1000000 in
theorem kk_90 : chkC [] (mkT kt_90) 3000 kc_90 = true := by decide +kernel
theorem ko_90 {z : Int → Int} (hz : zOK z) : conOK z kc_90 := chk_ok hz (K := []) (fun _ h => absurd h List.not_mem_nil) kk_90
/-- yX8_turns -/
def kc_91 : Con := (160, [(2, none, 213, 0, 1), (0, (some ((-2147483648), 2147483647)), 0, 0, 0), (0, (some ((-2147483648), 2147483647)), 0, 0, 0), (0, (some (0, 62)), 0, 0, 0)], [(54538, (some (0, 62)))], [], [(121856, ([((1, 54538), 1)], 0)), (122112, ([((1, 54538), 1)], 0))], [(213, 10, 10), (220, 0, 62), (221, 0, 62)], [(none, [(54538, .inl (some (1, 63)))], [(([((3, 4), 1), ((1, 54538), (-1))], 0), (-1), 100), (([((1, 54538), 1)], 0), 1, 63)], [(121856, ([((1, 54538), 1)], 0)), (122112, ([((1, 54538), 1)], 0))])])
def kt_91 : List (Nat × Nat × LpT) := [(160, 0, ([], [], [], [(54538, (some (0, 62)))], [(([((2, 54538), 1), ((1, 54538), (-1))], 0), 0, 100)], [(121856, ([((1, 54538), 1)], 0)), (122112, ([((1, 54538), 1)], 0))], ([((1, 54538), 1)], 1), [54538, 54538]))]
set_option maxRecDepth 1000000 in
theorem kk_91 : chkC [kc_90] (mkT kt_91) 3000 kc_91 = true := by decide +kernel
theorem ko_91 {z : Int → Int} (hz : zOK z) : conOK z kc_91 := chk_ok hz (K := [kc_90]) (List.forall_mem_cons.mpr ⟨ko_90 hz, fun _ h => absurd h List.not_mem_nil⟩) kk_91
/-- yX8_findPolygon -/
def kc_92 : Con := (156, [(2, none, 213, 0, 1), (0, (some (0, 6)), 0, 0, 0), (0, (some ((-2147483648), 2147483647)), 0, 0, 0)], [], [], [], [(213, 9, 10), (218, 0, 31), (219, 0, 31), (220, 0, 62), (221, 0, 62)], [(none, [(54537, .inl (some (0, 32))), (54538, .inl (some (0, 63)))], [], [(121856, ([((1, 54538), 1)], 0)), (122112, ([((1, 54538), 1)], 0)), (120073, ([], 1)), (120074, ([], 1))])])
def kt_92 : List (Nat × Nat × LpT) := [(156, 84, ([(3, 0, (some (0, 7)))], [], [], [(54537, (some (0, 32)))], [(([((0, 3), 4), ((1, 54537), (-1))], 4), 0, 100)], [(121344, ([((1, 54537), 1)], 0)), (121600, ([((1, 54537), 1)], 0))], ([((0, 3), (-1))], 8), [54537, 54537])), (156, 270, ([(3, 0, (some (1, 32)))], [], [], [(54538, (some (1, 32)))], [(([((0, 3), 1), ((1, 54538), (-1))], 0), 0, 100)], [(121856, ([((1, 54538), 1)], 0)), (122112, ([((1, 54538), 1)], 0))], ([((0, 3), (-1))], 33), [54538, 54538])), (156, 316, ([(4, 0, (some ((-1), 30)))], [], [], [(54538, (some (1, 63)))], [(([((1, 54537), 1), ((0, 4), (-1))], 0), 2, 100), (([((1, 54538), (-1)), ((0, 4), (-1))], 62), 0, 1000)], [(121856, ([((1, 54538), 1)], 0)), (122112, ([((1, 54538), 1)], 0))], ([((0, 4), 1)], 2), [54538, 54537, 54538]))]
set_option maxRecDepth 1000000 in
theorem kk_92 : chkC [kc_79, kc_86, kc_87, kc_89, kc_91] (mkT kt_92) 3000 kc_92 = true := by decide +kernel
theorem ko_92 {z : Int → Int} (hz : zOK z) : conOK z kc_92 := chk_ok hz (K := [kc_79, kc_86, kc_87, kc_89, kc_91]) (List.forall_mem_cons.mpr ⟨ko_79 hz, List.forall_mem_cons.mpr ⟨ko_86 hz, List.forall_mem_cons.mpr ⟨ko_87 hz, List.forall_mem_cons.mpr ⟨ko_89 hz, List.forall_mem_cons.mpr ⟨ko_91 hz, fun _ h => absurd h List.not_mem_nil⟩⟩⟩⟩⟩) kk_92

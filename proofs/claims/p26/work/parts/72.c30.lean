/-! ===== contracts, checked ===== -/
/-- yX8_load -/
def kc_138 : Con := (169, [(2, none, 213, 0, 1), (0, (some ((-2147483648), 2147483647)), 0, 0, 0)], [], [], [], [(216, 0, 7), (217, 0, 63)], [((some (0, none)), [], [], [])])
def kt_138 : List (Nat × Nat × LpT) := []
set_option maxRecDepth 1000000 in
theorem kk_138 : chkC [kc_11, kc_84] (mkT kt_138) 3000 kc_138 = true := by decide +kernel
theorem ko_138 {z : Int → Int} (hz : zOK z) : conOK z kc_138 := chk_ok hz (K := [kc_11, kc_84]) (List.forall_mem_cons.mpr ⟨ko_11 hz, List.forall_mem_cons.mpr ⟨ko_84 hz, fun _ h => absurd h List.not_mem_nil⟩⟩) kk_138
/-- yX0_toFloor -/
def kc_139 : Con := (9, [(2, none, 52, 0, 1), (0, (some (0, 6)), 0, 0, 0)], [(13317, (some (1, 1)))], [], [], [], [((some (0, none)), [], [], [])])
def kt_139 : List (Nat × Nat × LpT) := []
set_option maxRecDepth 1000000 in
theorem kk_139 : chkC [kc_48, kc_110] (mkT kt_139) 3000 kc_139 = true := by decide +kernel
theorem ko_139 {z : Int → Int} (hz : zOK z) : conOK z kc_139 := chk_ok hz (K := [kc_48, kc_110]) (List.forall_mem_cons.mpr ⟨ko_48 hz, List.forall_mem_cons.mpr ⟨ko_110 hz, fun _ h => absurd h List.not_mem_nil⟩⟩) kk_139
/-- yX7_hands -/
def kc_140 : Con := (86, [(2, none, 0, 0, 1), (0, (some ((-2147483648), 2147483647)), 0, 0, 0), (0, (some ((-2147483648), 2147483647)), 0, 0, 0)], [], [], [], [(52, 5, 6), (53, 0, 6), (55, 0, 6), (56, 0, 6), (57, 0, 6), (58, 0, 6), (59, 0, 6), (60, 0, 6), (61, 0, 6), (62, 0, 6), (63, 0, 6), (82, 4, 5), (83, 0, 27), (84, 0, 27), (85, 0, 27), (86, 0, 27), (87, 4, 5), (88, 0, 27), (89, 0, 27), (90, 0, 27), (91, 0, 27), (92, 4, 5), (93, 0, 27), (94, 0, 27), (95, 0, 27), (96, 0, 27), (97, 4, 5), (98, 0, 27), (99, 0, 27), (100, 0, 27), (101, 0, 27), (102, 4, 5), (103, 0, 27), (104, 0, 27), (105, 0, 27), (106, 0, 27), (107, 4, 5), (108, 0, 27), (109, 0, 27), (110, 0, 27), (111, 0, 27), (112, 4, 5), (113, 0, 27), (114, 0, 27), (115, 0, 27), (116, 0, 27)], [((some (0, none)), [], [], [])])
def kt_140 : List (Nat × Nat × LpT) := []
set_option maxRecDepth 1000000 in
theorem kk_140 : chkC [kc_0, kc_136, kc_139] (mkT kt_140) 3000 kc_140 = true := by decide +kernel
theorem ko_140 {z : Int → Int} (hz : zOK z) : conOK z kc_140 := chk_ok hz (K := [kc_0, kc_136, kc_139]) (List.forall_mem_cons.mpr ⟨ko_0 hz, List.forall_mem_cons.mpr ⟨ko_136 hz, List.forall_mem_cons.mpr ⟨ko_139 hz, fun _ h => absurd h List.not_mem_nil⟩⟩⟩) kk_140
/-- yX8_hands -/
def kc_141 : Con := (170, [(2, none, 213, 0, 1), (0, (some ((-2147483648), 2147483647)), 0, 0, 0), (0, (some ((-2147483648), 2147483647)), 0, 0, 0)], [], [], [], [(216, 0, 7), (217, 0, 63)], [((some (0, none)), [], [], [])])
def kt_141 : List (Nat × Nat × LpT) := []
set_option maxRecDepth 1000000 in
theorem kk_141 : chkC [kc_11, kc_84] (mkT kt_141) 3000 kc_141 = true := by decide +kernel
theorem ko_141 {z : Int → Int} (hz : zOK z) : conOK z kc_141 := chk_ok hz (K := [kc_11, kc_84]) (List.forall_mem_cons.mpr ⟨ko_11 hz, List.forall_mem_cons.mpr ⟨ko_84 hz, fun _ h => absurd h List.not_mem_nil⟩⟩) kk_141
/-- yX7_centre -/
def kc_143 : Con := (87, [(2, none, 0, 0, 1), (0, (some ((-2147483648), 2147483647)), 0, 0, 0), (0, (some ((-2147483648), 2147483647)), 0, 0, 0), (0, (some ((-2147483648), 2147483647)), 0, 0, 0)], [], [], [], [(52, 5, 6), (53, 0, 6), (55, 0, 6), (56, 0, 6), (57, 0, 6), (58, 0, 6), (59, 0, 6), (60, 0, 6), (61, 0, 6), (62, 0, 6), (63, 0, 6), (82, 4, 5), (83, 0, 27), (84, 0, 27), (85, 0, 27), (86, 0, 27), (87, 4, 5), (88, 0, 27), (89, 0, 27), (90, 0, 27), (91, 0, 27), (92, 4, 5), (93, 0, 27), (94, 0, 27), (95, 0, 27), (96, 0, 27), (97, 4, 5), (98, 0, 27), (99, 0, 27), (100, 0, 27), (101, 0, 27), (102, 4, 5), (103, 0, 27), (104, 0, 27), (105, 0, 27), (106, 0, 27), (107, 4, 5), (108, 0, 27), (109, 0, 27), (110, 0, 27), (111, 0, 27), (112, 4, 5), (113, 0, 27), (114, 0, 27), (115, 0, 27), (116, 0, 27)], [((some (1, (some ((-9223372036854775808), 9223372036854775807)))), [], [], [])])
def kt_143 : List (Nat × Nat × LpT) := []
set_option maxRecDepth 1000000 in
theorem kk_143 : chkC [kc_0, kc_136, kc_110, kc_142] (mkT kt_143) 3000 kc_143 = true := by decide +kernel
theorem ko_143 {z : Int → Int} (hz : zOK z) : conOK z kc_143 := chk_ok hz (K := [kc_0, kc_136, kc_110, kc_142]) (List.forall_mem_cons.mpr ⟨ko_0 hz, List.forall_mem_cons.mpr ⟨ko_136 hz, List.forall_mem_cons.mpr ⟨ko_110 hz, List.forall_mem_cons.mpr ⟨ko_142 hz, fun _ h => absurd h List.not_mem_nil⟩⟩⟩⟩) kk_143
/-- yX7_corner -/
def kc_144 : Con := (91, [(2, none, 0, 0, 1), (0, (some ((-2147483648), 2147483647)), 0, 0, 0), (0, (some ((-2147483648), 2147483647)), 0, 0, 0), (0, (some ((-2147483648), 2147483647)), 0, 0, 0)], [], [], [], [(52, 5, 6), (53, 0, 6), (55, 0, 6), (56, 0, 6), (57, 0, 6), (58, 0, 6), (59, 0, 6), (60, 0, 6), (61, 0, 6), (62, 0, 6), (63, 0, 6), (82, 4, 5), (83, 0, 27), (84, 0, 27), (85, 0, 27), (86, 0, 27), (87, 4, 5), (88, 0, 27), (89, 0, 27), (90, 0, 27), (91, 0, 27), (92, 4, 5), (93, 0, 27), (94, 0, 27), (95, 0, 27), (96, 0, 27), (97, 4, 5), (98, 0, 27), (99, 0, 27), (100, 0, 27), (101, 0, 27), (102, 4, 5), (103, 0, 27), (104, 0, 27), (105, 0, 27), (106, 0, 27), (107, 4, 5), (108, 0, 27), (109, 0, 27), (110, 0, 27), (111, 0, 27), (112, 4, 5), (113, 0, 27), (114, 0, 27), (115, 0, 27), (116, 0, 27)], [((some (0, none)), [], [], [])])
def kt_144 : List (Nat × Nat × LpT) := []
set_option maxRecDepth 1000000 in
theorem kk_144 : chkC [kc_0, kc_136] (mkT kt_144) 3000 kc_144 = true := by decide +kernel
theorem ko_144 {z : Int → Int} (hz : zOK z) : conOK z kc_144 := chk_ok hz (K := [kc_0, kc_136]) (List.forall_mem_cons.mpr ⟨ko_0 hz, List.forall_mem_cons.mpr ⟨ko_136 hz, fun _ h => absurd h List.not_mem_nil⟩⟩) kk_144
/-- yX8_corner -/
def kc_145 : Con := (174, [(2, none, 213, 0, 1), (0, (some ((-2147483648), 2147483647)), 0, 0, 0), (0, (some ((-2147483648), 2147483647)), 0, 0, 0), (0, (some ((-2147483648), 2147483647)), 0, 0, 0)], [], [], [], [(213, 9, 10), (218, 0, 31), (219, 0, 31), (220, 0, 62), (221, 0, 62)], [((some (0, (some ((-2147483648), 2147483647)))), [], [], [])])
def kt_145 : List (Nat × Nat × LpT) := []
set_option maxRecDepth 1000000 in
theorem kk_145 : chkC [kc_11, kc_92] (mkT kt_145) 3000 kc_145 = true := by decide +kernel
theorem ko_145 {z : Int → Int} (hz : zOK z) : conOK z kc_145 := chk_ok hz (K := [kc_11, kc_92]) (List.forall_mem_cons.mpr ⟨ko_11 hz, List.forall_mem_cons.mpr ⟨ko_92 hz, fun _ h => absurd h List.not_mem_nil⟩⟩) kk_145
/-- yX4_holds -/
def kc_146 : Con := (54, [(2, none, 82, 5, 7), (1, none, 0, 0, 0), (1, none, 0, 0, 0), (1, (some ((-9223372036854775808), 9223372036854775807)), 0, 0, 0)], [], [], [], [], [((some (0, (some (0, 2)))), [], [], [])])
def kt_146 : List (Nat × Nat × LpT) := [(54, 17, ([(7, 0, (some (0, 2))), (8, 0, (some (0, 28)))], [10, 12, 14], [], [], [], [], ([((0, 8), (-1))], 29), []))]
set_option maxRecDepth 1000000 in
theorem kk_146 : chkC [] (mkT kt_146) 3000 kc_146 = true := by decide +kernel
theorem ko_146 {z : Int → Int} (hz : zOK z) : conOK z kc_146 := chk_ok hz (K := []) (fun _ h => absurd h List.not_mem_nil) kk_146
/-- yX0_placed -/
def kc_147 : Con := (8, [(2, none, 52, 0, 1), (0, (some (0, 6)), 0, 0, 0), (0, (some ((-2147483648), 2147483647)), 0, 0, 0), (0, (some ((-2147483648), 2147483647)), 0, 0, 0)], [(13317, (some (1, 1)))], [], [], [], [((some (0, (some (0, 2)))), [], [], [])])
def kt_147 : List (Nat × Nat × LpT) := []
set_option maxRecDepth 1000000 in
theorem kk_147 : chkC [kc_110, kc_146] (mkT kt_147) 3000 kc_147 = true := by decide +kernel
theorem ko_147 {z : Int → Int} (hz : zOK z) : conOK z kc_147 := chk_ok hz (K := [kc_110, kc_146]) (List.forall_mem_cons.mpr ⟨ko_110 hz, List.forall_mem_cons.mpr ⟨ko_146 hz, fun _ h => absurd h List.not_mem_nil⟩⟩) kk_147
/-- yX7_lies -/
def kc_148 : Con := (92, [(2, none, 0, 0, 1), (0, (some ((-2147483648), 2147483647)), 0, 0, 0)], [], [], [], [(52, 5, 6), (53, 0, 6), (55, 0, 6), (56, 0, 6), (57, 0, 6), (58, 0, 6), (59, 0, 6), (60, 0, 6), (61, 0, 6), (62, 0, 6), (63, 0, 6), (82, 4, 5), (83, 0, 27), (84, 0, 27), (85, 0, 27), (86, 0, 27), (87, 4, 5), (88, 0, 27), (89, 0, 27), (90, 0, 27), (91, 0, 27), (92, 4, 5), (93, 0, 27), (94, 0, 27), (95, 0, 27), (96, 0, 27), (97, 4, 5), (98, 0, 27), (99, 0, 27), (100, 0, 27), (101, 0, 27), (102, 4, 5), (103, 0, 27), (104, 0, 27), (105, 0, 27), (106, 0, 27), (107, 4, 5), (108, 0, 27), (109, 0, 27), (110, 0, 27), (111, 0, 27), (112, 4, 5), (113, 0, 27), (114, 0, 27), (115, 0, 27), (116, 0, 27)], [((some (0, (some ((-100), 2)))), [], [], [])])
def kt_148 : List (Nat × Nat × LpT) := []
set_option maxRecDepth 1000000 in
theorem kk_148 : chkC [kc_0, kc_136, kc_147] (mkT kt_148) 3000 kc_148 = true := by decide +kernel
theorem ko_148 {z : Int → Int} (hz : zOK z) : conOK z kc_148 := chk_ok hz (K := [kc_0, kc_136, kc_147]) (List.forall_mem_cons.mpr ⟨ko_0 hz, List.forall_mem_cons.mpr ⟨ko_136 hz, List.forall_mem_cons.mpr ⟨ko_147 hz, fun _ h => absurd h List.not_mem_nil⟩⟩⟩) kk_148
/-- yX8_lies -/
def kc_149 : Con := (175, [(2, none, 213, 0, 1), (0, (some ((-2147483648), 2147483647)), 0, 0, 0)], [], [], [], [(213, 9, 10), (216, 0, 7), (217, 0, 63), (218, 0, 31), (219, 0, 31), (220, 0, 62), (221, 0, 62)], [((some (0, (some ((-100), 2)))), [], [], [])])
def kt_149 : List (Nat × Nat × LpT) := []
set_option maxRecDepth 1000000 in
theorem kk_149 : chkC [kc_11, kc_84, kc_97] (mkT kt_149) 3000 kc_149 = true := by decide +kernel
theorem ko_149 {z : Int → Int} (hz : zOK z) : conOK z kc_149 := chk_ok hz (K := [kc_11, kc_84, kc_97]) (List.forall_mem_cons.mpr ⟨ko_11 hz, List.forall_mem_cons.mpr ⟨ko_84 hz, List.forall_mem_cons.mpr ⟨ko_97 hz, fun _ h => absurd h List.not_mem_nil⟩⟩⟩) kk_149
/-- yX0_why -/
def kc_150 : Con := (7, [(2, none, 52, 0, 1), (0, (some (0, 6)), 0, 0, 0), (0, (some ((-2147483648), 2147483647)), 0, 0, 0), (0, (some ((-2147483648), 2147483647)), 0, 0, 0)], [(13317, (some (1, 1)))], [], [], [], [((some (0, (some (0, 4)))), [], [], [])])
def kt_150 : List (Nat × Nat × LpT) := []
set_option maxRecDepth 1000000 in
theorem kk_150 : chkC [kc_19, kc_147, kc_20] (mkT kt_150) 3000 kc_150 = true := by decide +kernel
theorem ko_150 {z : Int → Int} (hz : zOK z) : conOK z kc_150 := chk_ok hz (K := [kc_19, kc_147, kc_20]) (List.forall_mem_cons.mpr ⟨ko_19 hz, List.forall_mem_cons.mpr ⟨ko_147 hz, List.forall_mem_cons.mpr ⟨ko_20 hz, fun _ h => absurd h List.not_mem_nil⟩⟩⟩) kk_150
/-- yX0_whoFailsBy -/
def kc_151 : Con := (10, [(2, none, 52, 0, 1), (0, (some ((-2147483648), 2147483647)), 0, 0, 0)], [(13317, (some (1, 1)))], [], [], [], [((some (0, (some (0, 127)))), [], [], [])])
def kt_151 : List (Nat × Nat × LpT) := [(10, 4, ([(2, 0, (some (0, 127))), (3, 0, (some (0, 7)))], [], [], [], [], [], ([((0, 3), (-1))], 8), []))]
set_option maxRecDepth 1000000 in
theorem kk_151 : chkC [kc_43, kc_150] (mkT kt_151) 3000 kc_151 = true := by decide +kernel
theorem ko_151 {z : Int → Int} (hz : zOK z) : conOK z kc_151 := chk_ok hz (K := [kc_43, kc_150]) (List.forall_mem_cons.mpr ⟨ko_43 hz, List.forall_mem_cons.mpr ⟨ko_150 hz, fun _ h => absurd h List.not_mem_nil⟩⟩) kk_151

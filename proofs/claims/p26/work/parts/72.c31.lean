/-! ===== contracts, checked ===== -/
/-- yX7_stands -/
def kc_152 : Con := (93, [(2, none, 0, 0, 1), (0, (some ((-2147483648), 2147483647)), 0, 0, 0)], [], [], [], [(52, 5, 6), (53, 0, 6), (55, 0, 6), (56, 0, 6), (57, 0, 6), (58, 0, 6), (59, 0, 6), (60, 0, 6), (61, 0, 6), (62, 0, 6), (63, 0, 6), (82, 4, 5), (83, 0, 27), (84, 0, 27), (85, 0, 27), (86, 0, 27), (87, 4, 5), (88, 0, 27), (89, 0, 27), (90, 0, 27), (91, 0, 27), (92, 4, 5), (93, 0, 27), (94, 0, 27), (95, 0, 27), (96, 0, 27), (97, 4, 5), (98, 0, 27), (99, 0, 27), (100, 0, 27), (101, 0, 27), (102, 4, 5), (103, 0, 27), (104, 0, 27), (105, 0, 27), (106, 0, 27), (107, 4, 5), (108, 0, 27), (109, 0, 27), (110, 0, 27), (111, 0, 27), (112, 4, 5), (113, 0, 27), (114, 0, 27), (115, 0, 27), (116, 0, 27)], [((some (0, (some ((-100), 127)))), [], [], [])])
def kt_152 : List (Nat × Nat × LpT) := []
set_option maxRecDepth 1000000 in
theorem kk_152 : chkC [kc_136, kc_151] (mkT kt_152) 3000 kc_152 = true := by decide +kernel
theorem ko_152 {z : Int → Int} (hz : zOK z) : conOK z kc_152 := chk_ok hz (K := [kc_136, kc_151]) (List.forall_mem_cons.mpr ⟨ko_136 hz, List.forall_mem_cons.mpr ⟨ko_151 hz, fun _ h => absurd h List.not_mem_nil⟩⟩) kk_152
/-- yX8_stands -/
def kc_153 : Con := (176, [(2, none, 213, 0, 1), (0, (some ((-2147483648), 2147483647)), 0, 0, 0)], [], [], [], [(213, 9, 14), (216, 0, 7), (217, 0, 63), (218, 0, 31), (219, 0, 31), (220, 0, 62), (221, 0, 62)], [((some (0, (some ((-100), 127)))), [], [], [])])
def kt_153 : List (Nat × Nat × LpT) := []
set_option maxRecDepth 1000000 in
theorem kk_153 : chkC [kc_11, kc_98] (mkT kt_153) 3000 kc_153 = true := by decide +kernel
theorem ko_153 {z : Int → Int} (hz : zOK z) : conOK z kc_153 := chk_ok hz (K := [kc_11, kc_98]) (List.forall_mem_cons.mpr ⟨ko_11 hz, List.forall_mem_cons.mpr ⟨ko_98 hz, fun _ h => absurd h List.not_mem_nil⟩⟩) kk_153
/-- yX0_failing -/
def kc_154 : Con := (6, [(2, none, 52, 0, 1), (0, (some ((-2147483648), 2147483647)), 0, 0, 0), (0, (some ((-2147483648), 2147483647)), 0, 0, 0)], [(13317, (some (1, 1)))], [], [], [], [((some (0, (some (0, 127)))), [], [], [])])
def kt_154 : List (Nat × Nat × LpT) := [(6, 5, ([(3, 0, (some (0, 127))), (4, 0, (some (0, 7)))], [], [], [], [], [], ([((0, 4), (-1))], 8), []))]
set_option maxRecDepth 1000000 in
theorem kk_154 : chkC [kc_43, kc_150] (mkT kt_154) 3000 kc_154 = true := by decide +kernel
theorem ko_154 {z : Int → Int} (hz : zOK z) : conOK z kc_154 := chk_ok hz (K := [kc_43, kc_150]) (List.forall_mem_cons.mpr ⟨ko_43 hz, List.forall_mem_cons.mpr ⟨ko_150 hz, fun _ h => absurd h List.not_mem_nil⟩⟩) kk_154
/-- yX7_firstIn -/
def kc_155 : Con := (95, [(0, (some ((-2147483648), 2147483647)), 0, 0, 0)], [], [], [], [], [((some (0, (some ((-1), 6)))), [], [], [])])
def kt_155 : List (Nat × Nat × LpT) := [(95, 2, ([(1, 0, (some (0, 7)))], [], [], [], [], [], ([((0, 1), (-1))], 8), []))]
set_option maxRecDepth 1000000 in
theorem kk_155 : chkC [kc_0] (mkT kt_155) 3000 kc_155 = true := by decide +kernel
theorem ko_155 {z : Int → Int} (hz : zOK z) : conOK z kc_155 := chk_ok hz (K := [kc_0]) (List.forall_mem_cons.mpr ⟨ko_0 hz, fun _ h => absurd h List.not_mem_nil⟩) kk_155
/-- yX3_above -/
def kc_156 : Con := (43, [(2, none, 1, 0, 1), (0, (some (0, 6)), 0, 0, 0), (0, none, 0, 0, 0)], [], [], [], [], [((some (0, (some (0, 127)))), [], [], [])])
def kt_156 : List (Nat × Nat × LpT) := [(43, 5, ([(3, 0, (some (0, 127))), (4, 0, (some (0, 7)))], [], [], [], [], [], ([((0, 4), (-1))], 8), []))]
set_option maxRecDepth 1000000 in
theorem kk_156 : chkC [kc_43] (mkT kt_156) 3000 kc_156 = true := by decide +kernel
theorem ko_156 {z : Int → Int} (hz : zOK z) : conOK z kc_156 := chk_ok hz (K := [kc_43]) (List.forall_mem_cons.mpr ⟨ko_43 hz, fun _ h => absurd h List.not_mem_nil⟩) kk_156
/-- yX0_heaviestOn -/
def kc_157 : Con := (11, [(2, none, 52, 0, 1), (0, (some (0, 6)), 0, 0, 0)], [(13317, (some (1, 1)))], [], [], [], [((some (0, (some ((-1), 6)))), [], [], [])])
def kt_157 : List (Nat × Nat × LpT) := [(11, 18, ([(3, 0, (some ((-1), 6))), (4, 0, (some (0, 7)))], [], [], [], [], [], ([((0, 4), (-1))], 8), []))]
set_option maxRecDepth 1000000 in
theorem kk_157 : chkC [kc_156, kc_0] (mkT kt_157) 3000 kc_157 = true := by decide +kernel
theorem ko_157 {z : Int → Int} (hz : zOK z) : conOK z kc_157 := chk_ok hz (K := [kc_156, kc_0]) (List.forall_mem_cons.mpr ⟨ko_156 hz, List.forall_mem_cons.mpr ⟨ko_0 hz, fun _ h => absurd h List.not_mem_nil⟩⟩) kk_157
/-- yX7_fails -/
def kc_158 : Con := (94, [(2, none, 0, 0, 1), (0, (some ((-2147483648), 2147483647)), 0, 0, 0)], [], [], [], [(52, 5, 6), (53, 0, 6), (55, 0, 6), (56, 0, 6), (57, 0, 6), (58, 0, 6), (59, 0, 6), (60, 0, 6), (61, 0, 6), (62, 0, 6), (63, 0, 6), (82, 4, 5), (83, 0, 27), (84, 0, 27), (85, 0, 27), (86, 0, 27), (87, 4, 5), (88, 0, 27), (89, 0, 27), (90, 0, 27), (91, 0, 27), (92, 4, 5), (93, 0, 27), (94, 0, 27), (95, 0, 27), (96, 0, 27), (97, 4, 5), (98, 0, 27), (99, 0, 27), (100, 0, 27), (101, 0, 27), (102, 4, 5), (103, 0, 27), (104, 0, 27), (105, 0, 27), (106, 0, 27), (107, 4, 5), (108, 0, 27), (109, 0, 27), (110, 0, 27), (111, 0, 27), (112, 4, 5), (113, 0, 27), (114, 0, 27), (115, 0, 27), (116, 0, 27)], [((some (0, none)), [], [], [])])
def kt_158 : List (Nat × Nat × LpT) := [(94, 47, ([(4, 0, none), (5, 0, (some ((-1), 6))), (6, 0, (some ((-1), 6))), (7, 0, (some (0, 7)))], [], [], [], [], [], ([((0, 7), (-1))], 8), []))]
set_option maxRecDepth 1000000 in
theorem kk_158 : chkC [kc_136, kc_154, kc_155, kc_157, kc_150] (mkT kt_158) 3000 kc_158 = true := by decide +kernel
theorem ko_158 {z : Int → Int} (hz : zOK z) : conOK z kc_158 := chk_ok hz (K := [kc_136, kc_154, kc_155, kc_157, kc_150]) (List.forall_mem_cons.mpr ⟨ko_136 hz, List.forall_mem_cons.mpr ⟨ko_154 hz, List.forall_mem_cons.mpr ⟨ko_155 hz, List.forall_mem_cons.mpr ⟨ko_157 hz, List.forall_mem_cons.mpr ⟨ko_150 hz, fun _ h => absurd h List.not_mem_nil⟩⟩⟩⟩⟩) kk_158

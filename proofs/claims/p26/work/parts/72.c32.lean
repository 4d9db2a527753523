/-! ===== contracts, checked ===== -/
/-- yX7_tilt -/
def kc_159 : Con := (96, [(2, none, 0, 0, 1), (0, (some ((-2147483648), 2147483647)), 0, 0, 0), (0, (some ((-2147483648), 2147483647)), 0, 0, 0)], [], [], [], [(52, 5, 6), (53, 0, 6), (55, 0, 6), (56, 0, 6), (57, 0, 6), (58, 0, 6), (59, 0, 6), (60, 0, 6), (61, 0, 6), (62, 0, 6), (63, 0, 6), (82, 4, 5), (83, 0, 27), (84, 0, 27), (85, 0, 27), (86, 0, 27), (87, 4, 5), (88, 0, 27), (89, 0, 27), (90, 0, 27), (91, 0, 27), (92, 4, 5), (93, 0, 27), (94, 0, 27), (95, 0, 27), (96, 0, 27), (97, 4, 5), (98, 0, 27), (99, 0, 27), (100, 0, 27), (101, 0, 27), (102, 4, 5), (103, 0, 27), (104, 0, 27), (105, 0, 27), (106, 0, 27), (107, 4, 5), (108, 0, 27), (109, 0, 27), (110, 0, 27), (111, 0, 27), (112, 4, 5), (113, 0, 27), (114, 0, 27), (115, 0, 27), (116, 0, 27)], [((some (0, (some ((-100), 127)))), [], [], [])])
def kt_159 : List (Nat × Nat × LpT) := []
set_option maxRecDepth 1000000 in
theorem kk_159 : chkC [kc_136, kc_154] (mkT kt_159) 3000 kc_159 = true := by decide +kernel
theorem ko_159 {z : Int → Int} (hz : zOK z) : conOK z kc_159 := chk_ok hz (K := [kc_136, kc_154]) (List.forall_mem_cons.mpr ⟨ko_136 hz, List.forall_mem_cons.mpr ⟨ko_154 hz, fun _ h => absurd h List.not_mem_nil⟩⟩) kk_159
/-- yX8_tilt -/
def kc_160 : Con := (180, [(2, none, 213, 0, 1), (0, (some ((-2147483648), 2147483647)), 0, 0, 0), (0, (some ((-2147483648), 2147483647)), 0, 0, 0)], [], [], [], [(213, 9, 14), (216, 0, 7), (217, 0, 63), (218, 0, 31), (219, 0, 31), (220, 0, 62), (221, 0, 62)], [((some (0, (some ((-100), 127)))), [], [], [])])
def kt_160 : List (Nat × Nat × LpT) := []
set_option maxRecDepth 1000000 in
theorem kk_160 : chkC [kc_11, kc_98] (mkT kt_160) 3000 kc_160 = true := by decide +kernel
theorem ko_160 {z : Int → Int} (hz : zOK z) : conOK z kc_160 := chk_ok hz (K := [kc_11, kc_98]) (List.forall_mem_cons.mpr ⟨ko_11 hz, List.forall_mem_cons.mpr ⟨ko_98 hz, fun _ h => absurd h List.not_mem_nil⟩⟩) kk_160
/-- yX7_most -/
def kc_161 : Con := (98, [(2, none, 0, 0, 1), (0, (some ((-2147483648), 2147483647)), 0, 0, 0)], [], [], [], [(52, 5, 6), (53, 0, 6), (55, 0, 6), (56, 0, 6), (57, 0, 6), (58, 0, 6), (59, 0, 6), (60, 0, 6), (61, 0, 6), (62, 0, 6), (63, 0, 6), (82, 4, 5), (83, 0, 27), (84, 0, 27), (85, 0, 27), (86, 0, 27), (87, 4, 5), (88, 0, 27), (89, 0, 27), (90, 0, 27), (91, 0, 27), (92, 4, 5), (93, 0, 27), (94, 0, 27), (95, 0, 27), (96, 0, 27), (97, 4, 5), (98, 0, 27), (99, 0, 27), (100, 0, 27), (101, 0, 27), (102, 4, 5), (103, 0, 27), (104, 0, 27), (105, 0, 27), (106, 0, 27), (107, 4, 5), (108, 0, 27), (109, 0, 27), (110, 0, 27), (111, 0, 27), (112, 4, 5), (113, 0, 27), (114, 0, 27), (115, 0, 27), (116, 0, 27)], [((some (0, (some ((-100), 99)))), [], [], [])])
def kt_161 : List (Nat × Nat × LpT) := [(98, 17, ([(2, 0, (some ((-1), 99)))], [], [], [], [], [], ([((0, 2), 1)], 2), []))]
set_option maxRecDepth 1000000 in
theorem kk_161 : chkC [kc_136, kc_154] (mkT kt_161) 3000 kc_161 = true := by decide +kernel
theorem ko_161 {z : Int → Int} (hz : zOK z) : conOK z kc_161 := chk_ok hz (K := [kc_136, kc_154]) (List.forall_mem_cons.mpr ⟨ko_136 hz, List.forall_mem_cons.mpr ⟨ko_154 hz, fun _ h => absurd h List.not_mem_nil⟩⟩) kk_161
/-- yX8_most -/
def kc_162 : Con := (181, [(2, none, 213, 0, 1), (0, (some ((-2147483648), 2147483647)), 0, 0, 0)], [], [], [], [(213, 9, 14), (216, 0, 7), (217, 0, 63), (218, 0, 31), (219, 0, 31), (220, 0, 62), (221, 0, 62)], [((some (0, (some ((-100), 99)))), [], [], [])])
def kt_162 : List (Nat × Nat × LpT) := [(181, 15, ([(2, 0, (some ((-1), 99)))], [], [], [], [], [], ([((0, 2), 1)], 2), []))]
set_option maxRecDepth 1000000 in
theorem kk_162 : chkC [kc_11, kc_98] (mkT kt_162) 3000 kc_162 = true := by decide +kernel
theorem ko_162 {z : Int → Int} (hz : zOK z) : conOK z kc_162 := chk_ok hz (K := [kc_11, kc_98]) (List.forall_mem_cons.mpr ⟨ko_11 hz, List.forall_mem_cons.mpr ⟨ko_98 hz, fun _ h => absurd h List.not_mem_nil⟩⟩) kk_162
/-- yX7_free -/
def kc_163 : Con := (99, [(2, none, 0, 0, 1)], [], [], [], [(118, 5, 6), (119, 0, 6), (121, 0, 6), (122, 0, 6), (123, 0, 6), (124, 0, 6), (125, 0, 6), (126, 0, 6), (127, 0, 6), (128, 0, 6), (129, 0, 6), (148, 4, 5), (149, 0, 27), (150, 0, 27), (151, 0, 27), (152, 0, 27), (153, 4, 5), (154, 0, 27), (155, 0, 27), (156, 0, 27), (157, 0, 27), (158, 4, 5), (159, 0, 27), (160, 0, 27), (161, 0, 27), (162, 0, 27), (163, 4, 5), (164, 0, 27), (165, 0, 27), (166, 0, 27), (167, 0, 27), (168, 4, 5), (169, 0, 27), (170, 0, 27), (171, 0, 27), (172, 0, 27), (173, 4, 5), (174, 0, 27), (175, 0, 27), (176, 0, 27), (177, 0, 27), (178, 4, 5), (179, 0, 27), (180, 0, 27), (181, 0, 27), (182, 0, 27), (183, 0, 127)], [((some (0, (some (0, 127)))), [], [], [])])
def kt_163 : List (Nat × Nat × LpT) := []
set_option maxRecDepth 1000000 in
theorem kk_163 : chkC [kc_34, kc_76] (mkT kt_163) 3000 kc_163 = true := by decide +kernel
theorem ko_163 {z : Int → Int} (hz : zOK z) : conOK z kc_163 := chk_ok hz (K := [kc_34, kc_76]) (List.forall_mem_cons.mpr ⟨ko_34 hz, List.forall_mem_cons.mpr ⟨ko_76 hz, fun _ h => absurd h List.not_mem_nil⟩⟩) kk_163
/-- yX8_free -/
def kc_164 : Con := (182, [(2, none, 213, 0, 1)], [], [], [], [(213, 9, 14), (216, 0, 7), (217, 0, 63), (218, 0, 31), (219, 0, 31), (220, 0, 62), (221, 0, 62)], [((some (0, (some (0, 127)))), [], [], [])])
def kt_164 : List (Nat × Nat × LpT) := [(182, 4, ([(1, 0, (some (0, 127))), (2, 0, (some (0, 7)))], [], [], [], [], [], ([((0, 2), (-1))], 8), []))]
set_option maxRecDepth 1000000 in
theorem kk_164 : chkC [kc_11, kc_99] (mkT kt_164) 3000 kc_164 = true := by decide +kernel
theorem ko_164 {z : Int → Int} (hz : zOK z) : conOK z kc_164 := chk_ok hz (K := [kc_11, kc_99]) (List.forall_mem_cons.mpr ⟨ko_11 hz, List.forall_mem_cons.mpr ⟨ko_99 hz, fun _ h => absurd h List.not_mem_nil⟩⟩) kk_164
/-- yX7_way -/
def kc_165 : Con := (100, [(2, none, 0, 0, 1), (0, (some ((-2147483648), 2147483647)), 0, 0, 0)], [], [], [], [], [((some (0, (some ((-100), 127)))), [], [], [])])
def kt_165 : List (Nat × Nat × LpT) := []
set_option maxRecDepth 1000000 in
theorem kk_165 : chkC [kc_0, kc_38] (mkT kt_165) 3000 kc_165 = true := by decide +kernel
theorem ko_165 {z : Int → Int} (hz : zOK z) : conOK z kc_165 := chk_ok hz (K := [kc_0, kc_38]) (List.forall_mem_cons.mpr ⟨ko_0 hz, List.forall_mem_cons.mpr ⟨ko_38 hz, fun _ h => absurd h List.not_mem_nil⟩⟩) kk_165
/-- yX8_way -/
def kc_166 : Con := (183, [(2, none, 213, 0, 1), (0, (some ((-2147483648), 2147483647)), 0, 0, 0)], [], [], [], [], [((some (0, (some ((-100), 127)))), [], [], [])])
def kt_166 : List (Nat × Nat × LpT) := []
set_option maxRecDepth 1000000 in
theorem kk_166 : chkC [kc_11, kc_82] (mkT kt_166) 3000 kc_166 = true := by decide +kernel
theorem ko_166 {z : Int → Int} (hz : zOK z) : conOK z kc_166 := chk_ok hz (K := [kc_11, kc_82]) (List.forall_mem_cons.mpr ⟨ko_11 hz, List.forall_mem_cons.mpr ⟨ko_82 hz, fun _ h => absurd h List.not_mem_nil⟩⟩) kk_166
/-- yJ7_fill_53178 -/
def kc_167 : Con := (216, [(2, none, 184, 0, 1), (0, (some ((-1), (-1))), 0, 0, 0)], [], [], [], [(184, 0, 127)], [(none, [], [], [])])
def kt_167 : List (Nat × Nat × LpT) := [(216, 5, ([(2, 0, (some (0, 128)))], [], [], [], [], [], ([((0, 2), (-1))], 129), []))]
set_option maxRecDepth 1000000 in
theorem kk_167 : chkC [] (mkT kt_167) 3000 kc_167 = true := by decide +kernel
theorem ko_167 {z : Int → Int} (hz : zOK z) : conOK z kc_167 := chk_ok hz (K := []) (fun _ h => absurd h List.not_mem_nil) kk_167
/-- yX2_findFree -/
def kc_168 : Con := (35, [(2, none, 117, 0, 1), (2, none, 1, 0, 1)], [], [], [], [(118, 5, 6), (119, 0, 6), (121, 0, 6), (122, 0, 6), (123, 0, 6), (124, 0, 6), (125, 0, 6), (126, 0, 6), (127, 0, 6), (128, 0, 6), (129, 0, 6), (148, 4, 5), (149, 0, 27), (150, 0, 27), (151, 0, 27), (152, 0, 27), (153, 4, 5), (154, 0, 27), (155, 0, 27), (156, 0, 27), (157, 0, 27), (158, 4, 5), (159, 0, 27), (160, 0, 27), (161, 0, 27), (162, 0, 27), (163, 4, 5), (164, 0, 27), (165, 0, 27), (166, 0, 27), (167, 0, 27), (168, 4, 5), (169, 0, 27), (170, 0, 27), (171, 0, 27), (172, 0, 27), (173, 4, 5), (174, 0, 27), (175, 0, 27), (176, 0, 27), (177, 0, 27), (178, 4, 5), (179, 0, 27), (180, 0, 27), (181, 0, 27), (182, 0, 27), (183, 0, 127), (184, 0, 127)], [(none, [], [], [])])
def kt_168 : List (Nat × Nat × LpT) := [(35, 23, ([(2, 0, (some (0, 127)))], [], [], [], [], [], ([((0, 2), 1)], 1), [])), (35, 54, ([(3, 0, (some (0, 7)))], [], [], [], [], [], ([((0, 3), (-1))], 8), []))]
set_option maxRecDepth 1000000 in
theorem kk_168 : chkC [kc_167, kc_76, kc_43] (mkT kt_168) 3000 kc_168 = true := by decide +kernel
theorem ko_168 {z : Int → Int} (hz : zOK z) : conOK z kc_168 := chk_ok hz (K := [kc_167, kc_76, kc_43]) (List.forall_mem_cons.mpr ⟨ko_167 hz, List.forall_mem_cons.mpr ⟨ko_76 hz, List.forall_mem_cons.mpr ⟨ko_43 hz, fun _ h => absurd h List.not_mem_nil⟩⟩⟩) kk_168
/-- yX2_findFirst -/
def kc_169 : Con := (36, [(2, none, 117, 0, 1), (0, (some (0, 127)), 0, 0, 0)], [], [], [], [(186, 0, 6)], [(none, [], [], [])])
def kt_169 : List (Nat × Nat × LpT) := [(36, 4, ([(2, 0, (some (0, 127))), (3, 0, (some (0, 7)))], [], [], [], [], [], ([((0, 3), (-1))], 8), [])), (36, 22, ([(2, 0, (some (0, 127))), (4, 0, (some (0, 7)))], [], [], [], [], [], ([((0, 4), (-1))], 8), []))]
set_option maxRecDepth 1000000 in
theorem kk_169 : chkC [kc_43] (mkT kt_169) 3000 kc_169 = true := by decide +kernel
theorem ko_169 {z : Int → Int} (hz : zOK z) : conOK z kc_169 := chk_ok hz (K := [kc_43]) (List.forall_mem_cons.mpr ⟨ko_43 hz, fun _ h => absurd h List.not_mem_nil⟩) kk_169
/-- yX2_findOrders -/
def kc_170 : Con := (34, [(2, none, 117, 0, 1), (2, none, 1, 0, 1)], [], [], [], [(118, 5, 6), (119, 0, 6), (121, 0, 6), (122, 0, 6), (123, 0, 6), (124, 0, 6), (125, 0, 6), (126, 0, 6), (127, 0, 6), (128, 0, 6), (129, 0, 6), (148, 4, 5), (149, 0, 27), (150, 0, 27), (151, 0, 27), (152, 0, 27), (153, 4, 5), (154, 0, 27), (155, 0, 27), (156, 0, 27), (157, 0, 27), (158, 4, 5), (159, 0, 27), (160, 0, 27), (161, 0, 27), (162, 0, 27), (163, 4, 5), (164, 0, 27), (165, 0, 27), (166, 0, 27), (167, 0, 27), (168, 4, 5), (169, 0, 27), (170, 0, 27), (171, 0, 27), (172, 0, 27), (173, 4, 5), (174, 0, 27), (175, 0, 27), (176, 0, 27), (177, 0, 27), (178, 4, 5), (179, 0, 27), (180, 0, 27), (181, 0, 27), (182, 0, 27), (183, 0, 127), (184, 0, 127), (185, 0, 127), (186, 0, 6)], [((some (0, none)), [], [], [])])
def kt_170 : List (Nat × Nat × LpT) := [(34, 18, ([(2, 0, (some (1, 128)))], [], [], [], [], [], ([((0, 2), (-1))], 129), [])), (34, 35, ([(3, 0, (some (0, 7)))], [], [47361], [], [], [], ([((0, 3), (-1))], 8), []))]
set_option maxRecDepth 1000000 in
theorem kk_170 : chkC [kc_34, kc_168, kc_169, kc_43] (mkT kt_170) 3000 kc_170 = true := by decide +kernel
theorem ko_170 {z : Int → Int} (hz : zOK z) : conOK z kc_170 := chk_ok hz (K := [kc_34, kc_168, kc_169, kc_43]) (List.forall_mem_cons.mpr ⟨ko_34 hz, List.forall_mem_cons.mpr ⟨ko_168 hz, List.forall_mem_cons.mpr ⟨ko_169 hz, List.forall_mem_cons.mpr ⟨ko_43 hz, fun _ h => absurd h List.not_mem_nil⟩⟩⟩⟩) kk_170

/-! ===== contracts, checked ===== -/
/-- yJ7_fill_53178 -/
def kc_252 : Con := (216, [(2, none, 206, 2, 4), (0, (some (0, 0)), 0, 0, 0)], [], [], [], [(206, 0, 39), (208, 0, 39), (210, 0, 39), (212, 0, 39)], [(none, [], [], [])])
def kt_252 : List (Nat × Nat × LpT) := [(216, 5, ([(2, 0, (some (0, 128)))], [], [], [], [], [], ([((0, 2), (-1))], 129), []))]
set_option maxRecDepth 1000000 in
theorem kk_252 : chkC [] (mkT kt_252) 3000 kc_252 = true := by decide +kernel
theorem ko_252 {z : Int → Int} (hz : zOK z) : conOK z kc_252 := chk_ok hz (K := []) (fun _ h => absurd h List.not_mem_nil) kk_252
/-- yX5_become -/
def kc_253 : Con := (57, [(2, none, 205, 2, 4), (0, (some ((-1), 1)), 0, 0, 0), (0, (some (0, 40)), 0, 0, 0)], [], [], [], [(205, 1, 2), (206, 0, 39), (207, 1, 2), (208, 0, 39), (209, 1, 2), (210, 0, 39), (211, 1, 2), (212, 0, 39)], [(none, [], [], [])])
def kt_253 : List (Nat × Nat × LpT) := []
set_option maxRecDepth 1000000 in
theorem kk_253 : chkC [kc_252] (mkT kt_253) 3000 kc_253 = true := by decide +kernel
theorem ko_253 {z : Int → Int} (hz : zOK z) : conOK z kc_253 := chk_ok hz (K := [kc_252]) (List.forall_mem_cons.mpr ⟨ko_252 hz, fun _ h => absurd h List.not_mem_nil⟩) kk_253
/-- yX7_film -/
def kc_254 : Con := (115, [(2, none, 0, 0, 1), (0, (some ((-2147483648), 2147483647)), 0, 0, 0)], [], [], [], [(118, 5, 6), (119, 0, 6), (121, 0, 6), (122, 0, 6), (123, 0, 6), (124, 0, 6), (125, 0, 6), (126, 0, 6), (127, 0, 6), (128, 0, 6), (129, 0, 6), (148, 4, 5), (149, 0, 27), (150, 0, 27), (151, 0, 27), (152, 0, 27), (153, 4, 5), (154, 0, 27), (155, 0, 27), (156, 0, 27), (157, 0, 27), (158, 4, 5), (159, 0, 27), (160, 0, 27), (161, 0, 27), (162, 0, 27), (163, 4, 5), (164, 0, 27), (165, 0, 27), (166, 0, 27), (167, 0, 27), (168, 4, 5), (169, 0, 27), (170, 0, 27), (171, 0, 27), (172, 0, 27), (173, 4, 5), (174, 0, 27), (175, 0, 27), (176, 0, 27), (177, 0, 27), (178, 4, 5), (179, 0, 27), (180, 0, 27), (181, 0, 27), (182, 0, 27), (183, 0, 127), (184, 0, 127), (185, 0, 127), (186, 0, 6), (205, 1, 2), (206, 0, 39), (207, 1, 2), (208, 0, 39), (209, 1, 2), (210, 0, 39), (211, 1, 2), (212, 0, 39)], [((some (0, (some ((-100), 7)))), [], [], [])])
def kt_254 : List (Nat × Nat × LpT) := [(115, 50, ([(3, 0, (some (0, 7)))], [], [], [], [], [], ([((0, 3), (-1))], 8), []))]
set_option maxRecDepth 1000000 in
theorem kk_254 : chkC [kc_170, kc_77, kc_253] (mkT kt_254) 3000 kc_254 = true := by decide +kernel
theorem ko_254 {z : Int → Int} (hz : zOK z) : conOK z kc_254 := chk_ok hz (K := [kc_170, kc_77, kc_253]) (List.forall_mem_cons.mpr ⟨ko_170 hz, List.forall_mem_cons.mpr ⟨ko_77 hz, List.forall_mem_cons.mpr ⟨ko_253 hz, fun _ h => absurd h List.not_mem_nil⟩⟩⟩) kk_254
/-- yX7_comes -/
def kc_255 : Con := (116, [(2, none, 0, 0, 1), (0, (some ((-2147483648), 2147483647)), 0, 0, 0), (0, (some ((-2147483648), 2147483647)), 0, 0, 0), (0, (some ((-2147483648), 2147483647)), 0, 0, 0), (0, (some ((-2147483648), 2147483647)), 0, 0, 0)], [], [], [], [(1, 2, 3), (4, 0, 6), (5, 0, 6), (6, 0, 6), (7, 0, 6), (8, 0, 6), (9, 0, 6), (10, 0, 6), (11, 0, 8), (12, 0, 8), (13, 0, 8), (14, 0, 8), (15, 0, 8), (16, 0, 8), (17, 0, 8)], [((some (0, none)), [], [], [])])
def kt_255 : List (Nat × Nat × LpT) := [(116, 68, ([(6, 0, none), (7, 0, (some (0, 7)))], [8], [], [], [], [], ([((0, 7), (-1))], 8), []))]
set_option maxRecDepth 1000000 in
theorem kk_255 : chkC [kc_10] (mkT kt_255) 3000 kc_255 = true := by decide +kernel
theorem ko_255 {z : Int → Int} (hz : zOK z) : conOK z kc_255 := chk_ok hz (K := [kc_10]) (List.forall_mem_cons.mpr ⟨ko_10 hz, fun _ h => absurd h List.not_mem_nil⟩) kk_255

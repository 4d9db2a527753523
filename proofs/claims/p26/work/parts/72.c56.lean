/-! ===== contracts, checked ===== -/
/-- yX1_become -/
def kc_257 : Con := (30, [(2, none, 28, 1, 7), (2, none, 11, 1, 7)], [], [], [], [(28, 0, 8), (29, 0, 8), (30, 0, 8), (31, 0, 8), (32, 0, 8), (33, 0, 8), (34, 0, 8)], [(none, [], [], [])])
def kt_257 : List (Nat × Nat × LpT) := []
set_option maxRecDepth 1000000 in
theorem kk_257 : chkC [] (mkT kt_257) 3000 kc_257 = true := by decide +kernel
theorem ko_257 {z : Int → Int} (hz : zOK z) : conOK z kc_257 := chk_ok hz (K := []) (fun _ h => absurd h List.not_mem_nil) kk_257
/-- yX3_become -/
def kc_258 : Con := (46, [(2, none, 18, 0, 1), (2, none, 1, 0, 1)], [], [], [], [(18, 2, 3), (21, 0, 6), (22, 0, 6), (23, 0, 6), (24, 0, 6), (25, 0, 6), (26, 0, 6), (27, 0, 6), (28, 0, 8), (29, 0, 8), (30, 0, 8), (31, 0, 8), (32, 0, 8), (33, 0, 8), (34, 0, 8)], [(none, [], [], [])])
def kt_258 : List (Nat × Nat × LpT) := [(46, 2, ([(2, 0, (some (0, 7)))], [], [], [], [], [], ([((0, 2), (-1))], 8), []))]
set_option maxRecDepth 1000000 in
theorem kk_258 : chkC [kc_257] (mkT kt_258) 3000 kc_258 = true := by decide +kernel
theorem ko_258 {z : Int → Int} (hz : zOK z) : conOK z kc_258 := chk_ok hz (K := [kc_257]) (List.forall_mem_cons.mpr ⟨ko_257 hz, fun _ h => absurd h List.not_mem_nil⟩) kk_258
/-- yX7_image -/
def kc_259 : Con := (117, [(2, none, 0, 0, 1)], [], [], [], [(0, 7, 7), (18, 2, 3), (21, 0, 6), (22, 0, 6), (23, 0, 6), (24, 0, 6), (25, 0, 6), (26, 0, 6), (27, 0, 6), (28, 0, 8), (29, 0, 8), (30, 0, 8), (31, 0, 8), (32, 0, 8), (33, 0, 8), (34, 0, 8)], [((some (0, (some (0, 7)))), [], [], [])])
def kt_259 : List (Nat × Nat × LpT) := []
set_option maxRecDepth 1000000 in
theorem kk_259 : chkC [kc_258] (mkT kt_259) 3000 kc_259 = true := by decide +kernel
theorem ko_259 {z : Int → Int} (hz : zOK z) : conOK z kc_259 := chk_ok hz (K := [kc_258]) (List.forall_mem_cons.mpr ⟨ko_258 hz, fun _ h => absurd h List.not_mem_nil⟩) kk_259
/-- yX8_image -/
def kc_260 : Con := (207, [(2, none, 213, 0, 1)], [], [], [], [(213, 2, 2), (215, 0, 73)], [((some (0, (some (0, 7)))), [], [], [])])
def kt_260 : List (Nat × Nat × LpT) := []
set_option maxRecDepth 1000000 in
theorem kk_260 : chkC [] (mkT kt_260) 3000 kc_260 = true := by decide +kernel
theorem ko_260 {z : Int → Int} (hz : zOK z) : conOK z kc_260 := chk_ok hz (K := []) (fun _ h => absurd h List.not_mem_nil) kk_260
/-- yX1_become -/
def kc_261 : Con := (30, [(2, none, 11, 1, 7), (2, none, 28, 1, 7)], [], [], [], [(11, 0, 8), (12, 0, 8), (13, 0, 8), (14, 0, 8), (15, 0, 8), (16, 0, 8), (17, 0, 8)], [(none, [], [], [])])
def kt_261 : List (Nat × Nat × LpT) := []
set_option maxRecDepth 1000000 in
theorem kk_261 : chkC [] (mkT kt_261) 3000 kc_261 = true := by decide +kernel
theorem ko_261 {z : Int → Int} (hz : zOK z) : conOK z kc_261 := chk_ok hz (K := []) (fun _ h => absurd h List.not_mem_nil) kk_261
/-- yX3_become -/
def kc_262 : Con := (46, [(2, none, 1, 0, 1), (2, none, 18, 0, 1)], [], [], [], [(1, 2, 3), (4, 0, 6), (5, 0, 6), (6, 0, 6), (7, 0, 6), (8, 0, 6), (9, 0, 6), (10, 0, 6), (11, 0, 8), (12, 0, 8), (13, 0, 8), (14, 0, 8), (15, 0, 8), (16, 0, 8), (17, 0, 8)], [(none, [], [], [])])
def kt_262 : List (Nat × Nat × LpT) := [(46, 2, ([(2, 0, (some (0, 7)))], [], [], [], [], [], ([((0, 2), (-1))], 8), []))]
set_option maxRecDepth 1000000 in
theorem kk_262 : chkC [kc_261] (mkT kt_262) 3000 kc_262 = true := by decide +kernel
theorem ko_262 {z : Int → Int} (hz : zOK z) : conOK z kc_262 := chk_ok hz (K := [kc_261]) (List.forall_mem_cons.mpr ⟨ko_261 hz, fun _ h => absurd h List.not_mem_nil⟩) kk_262
/-- yX7_back -/
def kc_263 : Con := (118, [(2, none, 0, 0, 1)], [], [], [], [(1, 2, 3), (4, 0, 6), (5, 0, 6), (6, 0, 6), (7, 0, 6), (8, 0, 6), (9, 0, 6), (10, 0, 6), (11, 0, 8), (12, 0, 8), (13, 0, 8), (14, 0, 8), (15, 0, 8), (16, 0, 8), (17, 0, 8)], [((some (0, (some ((-100), 7)))), [], [], [])])
def kt_263 : List (Nat × Nat × LpT) := []
set_option maxRecDepth 1000000 in
theorem kk_263 : chkC [kc_262] (mkT kt_263) 3000 kc_263 = true := by decide +kernel
theorem ko_263 {z : Int → Int} (hz : zOK z) : conOK z kc_263 := chk_ok hz (K := [kc_262]) (List.forall_mem_cons.mpr ⟨ko_262 hz, fun _ h => absurd h List.not_mem_nil⟩) kk_263
/-- yX8_back -/
def kc_264 : Con := (208, [(2, none, 213, 0, 1)], [], [], [], [(214, 0, 73)], [((some (0, (some ((-100), 7)))), [], [], [])])
def kt_264 : List (Nat × Nat × LpT) := []
set_option maxRecDepth 1000000 in
theorem kk_264 : chkC [] (mkT kt_264) 3000 kc_264 = true := by decide +kernel
theorem ko_264 {z : Int → Int} (hz : zOK z) : conOK z kc_264 := chk_ok hz (K := []) (fun _ h => absurd h List.not_mem_nil) kk_264
/-- yX3_weightOfAll -/
def kc_265 : Con := (47, [(2, none, 1, 0, 1)], [], [], [], [], [((some (0, none)), [], [], [])])
def kt_265 : List (Nat × Nat × LpT) := [(47, 4, ([(1, 0, none), (2, 0, (some (0, 7)))], [], [], [], [], [], ([((0, 2), (-1))], 8), []))]
set_option maxRecDepth 1000000 in
theorem kk_265 : chkC [kc_0] (mkT kt_265) 3000 kc_265 = true := by decide +kernel
theorem ko_265 {z : Int → Int} (hz : zOK z) : conOK z kc_265 := chk_ok hz (K := [kc_0]) (List.forall_mem_cons.mpr ⟨ko_0 hz, fun _ h => absurd h List.not_mem_nil⟩) kk_265
/-- yX3_restingPairs -/
def kc_266 : Con := (48, [(2, none, 1, 0, 1)], [], [], [], [], [((some (0, none)), [], [], [])])
def kt_266 : List (Nat × Nat × LpT) := [(48, 4, ([(1, 0, none), (2, 0, (some (0, 7)))], [], [], [], [], [], ([((0, 2), (-1))], 8), []))]
set_option maxRecDepth 1000000 in
theorem kk_266 : chkC [kc_0, kc_102, kc_77] (mkT kt_266) 3000 kc_266 = true := by decide +kernel
theorem ko_266 {z : Int → Int} (hz : zOK z) : conOK z kc_266 := chk_ok hz (K := [kc_0, kc_102, kc_77]) (List.forall_mem_cons.mpr ⟨ko_0 hz, List.forall_mem_cons.mpr ⟨ko_102 hz, List.forall_mem_cons.mpr ⟨ko_77 hz, fun _ h => absurd h List.not_mem_nil⟩⟩⟩) kk_266
/-- yX0_allToFloor -/
def kc_267 : Con := (12, [(2, none, 52, 0, 1)], [(13317, (some (1, 1)))], [], [], [], [((some (0, none)), [], [], [])])
def kt_267 : List (Nat × Nat × LpT) := [(12, 4, ([(1, 0, none), (2, 0, (some (0, 7)))], [], [], [], [], [], ([((0, 2), (-1))], 8), []))]
set_option maxRecDepth 1000000 in
theorem kk_267 : chkC [kc_43, kc_139] (mkT kt_267) 3000 kc_267 = true := by decide +kernel
theorem ko_267 {z : Int → Int} (hz : zOK z) : conOK z kc_267 := chk_ok hz (K := [kc_43, kc_139]) (List.forall_mem_cons.mpr ⟨ko_43 hz, List.forall_mem_cons.mpr ⟨ko_139 hz, fun _ h => absurd h List.not_mem_nil⟩⟩) kk_267

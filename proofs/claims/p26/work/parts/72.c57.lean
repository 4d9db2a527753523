/-! ===== contracts, checked ===== -/
/-- yX7_count -/
def kc_268 : Con := (119, [(2, none, 0, 0, 1), (0, (some ((-2147483648), 2147483647)), 0, 0, 0)], [], [], [], [(52, 5, 6), (53, 0, 6), (55, 0, 6), (56, 0, 6), (57, 0, 6), (58, 0, 6), (59, 0, 6), (60, 0, 6), (61, 0, 6), (62, 0, 6), (63, 0, 6), (82, 4, 5), (83, 0, 27), (84, 0, 27), (85, 0, 27), (86, 0, 27), (87, 4, 5), (88, 0, 27), (89, 0, 27), (90, 0, 27), (91, 0, 27), (92, 4, 5), (93, 0, 27), (94, 0, 27), (95, 0, 27), (96, 0, 27), (97, 4, 5), (98, 0, 27), (99, 0, 27), (100, 0, 27), (101, 0, 27), (102, 4, 5), (103, 0, 27), (104, 0, 27), (105, 0, 27), (106, 0, 27), (107, 4, 5), (108, 0, 27), (109, 0, 27), (110, 0, 27), (111, 0, 27), (112, 4, 5), (113, 0, 27), (114, 0, 27), (115, 0, 27), (116, 0, 27)], [((some (0, none)), [], [], [])])
def kt_268 : List (Nat × Nat × LpT) := []
set_option maxRecDepth 1000000 in
theorem kk_268 : chkC [kc_77, kc_265, kc_266, kc_136, kc_267] (mkT kt_268) 3000 kc_268 = true := by decide +kernel
theorem ko_268 {z : Int → Int} (hz : zOK z) : conOK z kc_268 := chk_ok hz (K := [kc_77, kc_265, kc_266, kc_136, kc_267]) (List.forall_mem_cons.mpr ⟨ko_77 hz, List.forall_mem_cons.mpr ⟨ko_265 hz, List.forall_mem_cons.mpr ⟨ko_266 hz, List.forall_mem_cons.mpr ⟨ko_136 hz, List.forall_mem_cons.mpr ⟨ko_267 hz, fun _ h => absurd h List.not_mem_nil⟩⟩⟩⟩⟩) kk_268
/-- yX8_weights -/
def kc_269 : Con := (210, [(2, none, 213, 0, 1)], [], [], [], [], [((some (0, none)), [], [], [])])
def kt_269 : List (Nat × Nat × LpT) := [(210, 4, ([(1, 0, none), (2, 0, (some (0, 7)))], [], [], [], [], [], ([((0, 2), (-1))], 8), []))]
set_option maxRecDepth 1000000 in
theorem kk_269 : chkC [kc_11] (mkT kt_269) 3000 kc_269 = true := by decide +kernel
theorem ko_269 {z : Int → Int} (hz : zOK z) : conOK z kc_269 := chk_ok hz (K := [kc_11]) (List.forall_mem_cons.mpr ⟨ko_11 hz, fun _ h => absurd h List.not_mem_nil⟩) kk_269
/-- yX8_twos -/
def kc_270 : Con := (211, [(2, none, 213, 0, 1)], [], [], [], [], [((some (0, none)), [], [], [])])
def kt_270 : List (Nat × Nat × LpT) := [(211, 4, ([(1, 0, none), (2, 0, (some (0, 7)))], [], [], [], [], [], ([((0, 2), (-1))], 8), []))]
set_option maxRecDepth 1000000 in
theorem kk_270 : chkC [kc_11, kc_104, kc_100] (mkT kt_270) 3000 kc_270 = true := by decide +kernel
theorem ko_270 {z : Int → Int} (hz : zOK z) : conOK z kc_270 := chk_ok hz (K := [kc_11, kc_104, kc_100]) (List.forall_mem_cons.mpr ⟨ko_11 hz, List.forall_mem_cons.mpr ⟨ko_104 hz, List.forall_mem_cons.mpr ⟨ko_100 hz, fun _ h => absurd h List.not_mem_nil⟩⟩⟩) kk_270
/-- yX8_toFloor -/
def kc_271 : Con := (212, [(2, none, 213, 0, 1)], [], [], [], [(216, 0, 7), (217, 0, 63)], [((some (0, none)), [], [], [])])
def kt_271 : List (Nat × Nat × LpT) := [(212, 12, ([(1, 0, none), (2, 0, (some (0, 7)))], [], [], [], [], [], ([((0, 2), (-1))], 8), []))]
set_option maxRecDepth 1000000 in
theorem kk_271 : chkC [kc_11, kc_84] (mkT kt_271) 3000 kc_271 = true := by decide +kernel
theorem ko_271 {z : Int → Int} (hz : zOK z) : conOK z kc_271 := chk_ok hz (K := [kc_11, kc_84]) (List.forall_mem_cons.mpr ⟨ko_11 hz, List.forall_mem_cons.mpr ⟨ko_84 hz, fun _ h => absurd h List.not_mem_nil⟩⟩) kk_271
/-- yX8_count -/
def kc_272 : Con := (209, [(2, none, 213, 0, 1), (0, (some ((-2147483648), 2147483647)), 0, 0, 0)], [], [], [], [(216, 0, 7), (217, 0, 63)], [((some (0, none)), [], [], [])])
def kt_272 : List (Nat × Nat × LpT) := []
set_option maxRecDepth 1000000 in
theorem kk_272 : chkC [kc_11, kc_100, kc_269, kc_270, kc_271] (mkT kt_272) 3000 kc_272 = true := by decide +kernel
theorem ko_272 {z : Int → Int} (hz : zOK z) : conOK z kc_272 := chk_ok hz (K := [kc_11, kc_100, kc_269, kc_270, kc_271]) (List.forall_mem_cons.mpr ⟨ko_11 hz, List.forall_mem_cons.mpr ⟨ko_100 hz, List.forall_mem_cons.mpr ⟨ko_269 hz, List.forall_mem_cons.mpr ⟨ko_270 hz, List.forall_mem_cons.mpr ⟨ko_271 hz, fun _ h => absurd h List.not_mem_nil⟩⟩⟩⟩⟩) kk_272

/-! ===== contracts, checked ===== -/
/-- yX7_firstFailingBump -/
def kc_213 : Con := (106, [(2, none, 0, 0, 1), (0, none, 0, 0, 0), (0, (some ((-2147483648), 2147483647)), 0, 0, 0)], [(13317, (some (1, 1)))], [], [], [], [((some (0, (some ((-1), 2147483647)))), [], [], [])])
def kt_213 : List (Nat × Nat × LpT) := [(106, 5, ([(3, 0, none), (4, 0, (some (0, 2147483647)))], [], [], [], [], [], ([((0, 4), (-1))], 2147483648), []))]
set_option maxRecDepth 1000000 in
theorem kk_213 : chkC [kc_154] (mkT kt_213) 3000 kc_213 = true := by decide +kernel
theorem ko_213 {z : Int → Int} (hz : zOK z) : conOK z kc_213 := chk_ok hz (K := [kc_154]) (List.forall_mem_cons.mpr ⟨ko_154 hz, fun _ h => absurd h List.not_mem_nil⟩) kk_213
/-- yX7_chance -/
def kc_214 : Con := (108, [(2, none, 0, 0, 1), (0, (some ((-2147483648), 2147483647)), 0, 0, 0), (0, (some ((-2147483648), 2147483647)), 0, 0, 0), (0, (some ((-2147483648), 2147483647)), 0, 0, 0), (0, (some ((-2147483648), 2147483647)), 0, 0, 0)], [], [], [], [(52, 5, 6), (53, 0, 6), (55, 0, 6), (56, 0, 6), (57, 0, 6), (58, 0, 6), (59, 0, 6), (60, 0, 6), (61, 0, 6), (62, 0, 6), (63, 0, 6), (82, 4, 5), (83, 0, 27), (84, 0, 27), (85, 0, 27), (86, 0, 27), (87, 4, 5), (88, 0, 27), (89, 0, 27), (90, 0, 27), (91, 0, 27), (92, 4, 5), (93, 0, 27), (94, 0, 27), (95, 0, 27), (96, 0, 27), (97, 4, 5), (98, 0, 27), (99, 0, 27), (100, 0, 27), (101, 0, 27), (102, 4, 5), (103, 0, 27), (104, 0, 27), (105, 0, 27), (106, 0, 27), (107, 4, 5), (108, 0, 27), (109, 0, 27), (110, 0, 27), (111, 0, 27), (112, 4, 5), (113, 0, 27), (114, 0, 27), (115, 0, 27), (116, 0, 27)], [((some (0, (some ((-9223372036854775808), 9223372036854775807)))), [], [], [])])
def kt_214 : List (Nat × Nat × LpT) := [(108, 43, ([(5, 0, none), (6, 0, (some (0, 20)))], [], [], [], [], [], ([((0, 6), (-1))], 21), []))]
set_option maxRecDepth 1000000 in
theorem kk_214 : chkC [kc_136, kc_209, kc_213, kc_142] (mkT kt_214) 3000 kc_214 = true := by decide +kernel
theorem ko_214 {z : Int → Int} (hz : zOK z) : conOK z kc_214 := chk_ok hz (K := [kc_136, kc_209, kc_213, kc_142]) (List.forall_mem_cons.mpr ⟨ko_136 hz, List.forall_mem_cons.mpr ⟨ko_209 hz, List.forall_mem_cons.mpr ⟨ko_213 hz, List.forall_mem_cons.mpr ⟨ko_142 hz, fun _ h => absurd h List.not_mem_nil⟩⟩⟩⟩) kk_214
/-- yX8_bumped -/
def kc_215 : Con := (191, [(2, none, 213, 0, 1), (0, none, 0, 0, 0), (0, (some ((-2147483648), 2147483647)), 0, 0, 0)], [], [], [], [(213, 9, 14), (216, 0, 7), (217, 0, 63), (218, 0, 31), (219, 0, 31), (220, 0, 62), (221, 0, 62)], [((some (0, (some ((-1), 2147483647)))), [], [], [])])
def kt_215 : List (Nat × Nat × LpT) := [(191, 5, ([(3, 0, none), (4, 0, (some (0, 2147483647)))], [], [], [], [], [], ([((0, 4), (-1))], 2147483648), []))]
set_option maxRecDepth 1000000 in
theorem kk_215 : chkC [kc_11, kc_98] (mkT kt_215) 3000 kc_215 = true := by decide +kernel
theorem ko_215 {z : Int → Int} (hz : zOK z) : conOK z kc_215 := chk_ok hz (K := [kc_11, kc_98]) (List.forall_mem_cons.mpr ⟨ko_11 hz, List.forall_mem_cons.mpr ⟨ko_98 hz, fun _ h => absurd h List.not_mem_nil⟩⟩) kk_215
/-- yX8_common -/
def kc_216 : Con := (173, [(1, (some ((-2147483648), 2147483647)), 0, 0, 0), (1, (some (1, 1099511627776)), 0, 0, 0)], [], [], [], [], [((some (1, (some (1, 9223372036854775807)))), [], [], [])])
def kt_216 : List (Nat × Nat × LpT) := [(173, 17, ([(4, 1, (some (0, 1099511627776))), (6, 1, (some (0, 1099511627776)))], [8], [], [], [(([((0, 4), 1), ((0, 6), 1)], 0), 1, 1125899906842624)], [], ([((0, 6), 1)], 1), []))]
set_option maxRecDepth 1000000 in
theorem kk_216 : chkC [] (mkT kt_216) 3000 kc_216 = true := by decide +kernel
theorem ko_216 {z : Int → Int} (hz : zOK z) : conOK z kc_216 := chk_ok hz (K := []) (fun _ h => absurd h List.not_mem_nil) kk_216
/-- yX8_partOf -/
def kc_217 : Con := (172, [(1, (some ((-2147483648), 2147483647)), 0, 0, 0), (1, (some (1, 1099511627776)), 0, 0, 0), (0, (some ((-2147483648), 2147483647)), 0, 0, 0)], [], [], [], [], [((some (1, (some ((-9223372036854775808), 9223372036854775807)))), [], [], [])])
def kt_217 : List (Nat × Nat × LpT) := []
set_option maxRecDepth 1000000 in
theorem kk_217 : chkC [kc_216] (mkT kt_217) 3000 kc_217 = true := by decide +kernel
theorem ko_217 {z : Int → Int} (hz : zOK z) : conOK z kc_217 := chk_ok hz (K := [kc_216]) (List.forall_mem_cons.mpr ⟨ko_216 hz, fun _ h => absurd h List.not_mem_nil⟩) kk_217
/-- yX8_chance -/
def kc_218 : Con := (192, [(2, none, 213, 0, 1), (0, (some ((-2147483648), 2147483647)), 0, 0, 0), (0, (some ((-2147483648), 2147483647)), 0, 0, 0), (0, (some ((-2147483648), 2147483647)), 0, 0, 0), (0, (some ((-2147483648), 2147483647)), 0, 0, 0)], [], [], [], [(213, 9, 14), (216, 0, 7), (217, 0, 63), (218, 0, 31), (219, 0, 31), (220, 0, 62), (221, 0, 62)], [((some (0, (some ((-9223372036854775808), 9223372036854775807)))), [], [], [])])
def kt_218 : List (Nat × Nat × LpT) := [(192, 39, ([(5, 0, none), (6, 0, (some (0, 20)))], [], [], [], [], [], ([((0, 6), (-1))], 21), []))]
set_option maxRecDepth 1000000 in
theorem kk_218 : chkC [kc_211, kc_215, kc_217] (mkT kt_218) 3000 kc_218 = true := by decide +kernel
theorem ko_218 {z : Int → Int} (hz : zOK z) : conOK z kc_218 := chk_ok hz (K := [kc_211, kc_215, kc_217]) (List.forall_mem_cons.mpr ⟨ko_211 hz, List.forall_mem_cons.mpr ⟨ko_215 hz, List.forall_mem_cons.mpr ⟨ko_217 hz, fun _ h => absurd h List.not_mem_nil⟩⟩⟩) kk_218

/-! ===== contracts, checked ===== -/
/-- yX1_bears -/
def kc_201 : Con := (21, [(2, none, 45, 1, 7)], [], [], [], [], [((some (0, (some (0, 2147483647)))), [], [], [])])
def kt_201 : List (Nat × Nat × LpT) := []
set_option maxRecDepth 1000000 in
theorem kk_201 : chkC [] (mkT kt_201) 3000 kc_201 = true := by decide +kernel
theorem ko_201 {z : Int → Int} (hz : zOK z) : conOK z kc_201 := chk_ok hz (K := []) (fun _ h => absurd h List.not_mem_nil) kk_201
/-- yX0_placed -/
def kc_202 : Con := (8, [(2, none, 52, 0, 1), (0, (some (0, 6)), 0, 0, 0), (0, (some ((-2147483648), 2147483647)), 0, 0, 0), (0, (some ((-2147483648), 2147483647)), 0, 0, 0)], [(13317, (some (35, 35)))], [], [], [], [((some (0, (some (0, 2)))), [], [], [])])
def kt_202 : List (Nat × Nat × LpT) := []
set_option maxRecDepth 1000000 in
theorem kk_202 : chkC [kc_188, kc_146] (mkT kt_202) 3000 kc_202 = true := by decide +kernel
theorem ko_202 {z : Int → Int} (hz : zOK z) : conOK z kc_202 := chk_ok hz (K := [kc_188, kc_146]) (List.forall_mem_cons.mpr ⟨ko_188 hz, List.forall_mem_cons.mpr ⟨ko_146 hz, fun _ h => absurd h List.not_mem_nil⟩⟩) kk_202
/-- yX1_grip -/
def kc_203 : Con := (22, [(2, none, 45, 1, 7)], [], [], [], [], [((some (0, (some (5, 99)))), [], [], [])])
def kt_203 : List (Nat × Nat × LpT) := []
set_option maxRecDepth 1000000 in
theorem kk_203 : chkC [] (mkT kt_203) 3000 kc_203 = true := by decide +kernel
theorem ko_203 {z : Int → Int} (hz : zOK z) : conOK z kc_203 := chk_ok hz (K := []) (fun _ h => absurd h List.not_mem_nil) kk_203
/-- yX0_why -/
def kc_204 : Con := (7, [(2, none, 52, 0, 1), (0, (some (0, 6)), 0, 0, 0), (0, (some ((-2147483648), 2147483647)), 0, 0, 0), (0, (some ((-2147483648), 2147483647)), 0, 0, 0)], [(13317, (some (35, 35)))], [], [], [], [((some (0, (some (0, 4)))), [], [], [])])
def kt_204 : List (Nat × Nat × LpT) := []
set_option maxRecDepth 1000000 in
theorem kk_204 : chkC [kc_201, kc_202, kc_203] (mkT kt_204) 3000 kc_204 = true := by decide +kernel
theorem ko_204 {z : Int → Int} (hz : zOK z) : conOK z kc_204 := chk_ok hz (K := [kc_201, kc_202, kc_203]) (List.forall_mem_cons.mpr ⟨ko_201 hz, List.forall_mem_cons.mpr ⟨ko_202 hz, List.forall_mem_cons.mpr ⟨ko_203 hz, fun _ h => absurd h List.not_mem_nil⟩⟩⟩) kk_204
/-- yX0_failing -/
def kc_205 : Con := (6, [(2, none, 52, 0, 1), (0, (some ((-2147483648), 2147483647)), 0, 0, 0), (0, (some ((-2147483648), 2147483647)), 0, 0, 0)], [(13317, (some (35, 35)))], [], [], [], [((some (0, (some (0, 127)))), [], [], [])])
def kt_205 : List (Nat × Nat × LpT) := [(6, 5, ([(3, 0, (some (0, 127))), (4, 0, (some (0, 7)))], [], [], [], [], [], ([((0, 4), (-1))], 8), []))]
set_option maxRecDepth 1000000 in
theorem kk_205 : chkC [kc_43, kc_204] (mkT kt_205) 3000 kc_205 = true := by decide +kernel
theorem ko_205 {z : Int → Int} (hz : zOK z) : conOK z kc_205 := chk_ok hz (K := [kc_43, kc_204]) (List.forall_mem_cons.mpr ⟨ko_43 hz, List.forall_mem_cons.mpr ⟨ko_204 hz, fun _ h => absurd h List.not_mem_nil⟩⟩) kk_205
/-- yX7_wouldStandAt -/
def kc_206 : Con := (104, [(2, none, 0, 0, 1), (0, (some ((-2147483648), 2147483647)), 0, 0, 0), (0, (some ((-2147483648), 2147483647)), 0, 0, 0), (0, (some ((-2147483648), 2147483647)), 0, 0, 0)], [], [], [], [(35, 2, 3), (38, 0, 6), (39, 0, 6), (40, 0, 6), (41, 0, 6), (42, 0, 6), (43, 0, 6), (44, 0, 6), (45, 0, 8), (46, 0, 8), (47, 0, 8), (48, 0, 8), (49, 0, 8), (50, 0, 8), (51, 0, 8), (52, 5, 6), (53, 0, 6), (55, 0, 6), (56, 0, 6), (57, 0, 6), (58, 0, 6), (59, 0, 6), (60, 0, 6), (61, 0, 6), (62, 0, 6), (63, 0, 6), (82, 4, 5), (83, 0, 27), (84, 0, 27), (85, 0, 27), (86, 0, 27), (87, 4, 5), (88, 0, 27), (89, 0, 27), (90, 0, 27), (91, 0, 27), (92, 4, 5), (93, 0, 27), (94, 0, 27), (95, 0, 27), (96, 0, 27), (97, 4, 5), (98, 0, 27), (99, 0, 27), (100, 0, 27), (101, 0, 27), (102, 4, 5), (103, 0, 27), (104, 0, 27), (105, 0, 27), (106, 0, 27), (107, 4, 5), (108, 0, 27), (109, 0, 27), (110, 0, 27), (111, 0, 27), (112, 4, 5), (113, 0, 27), (114, 0, 27), (115, 0, 27), (116, 0, 27)], [((some (0, (some (0, 1)))), [], [], [])])
def kt_206 : List (Nat × Nat × LpT) := []
set_option maxRecDepth 1000000 in
theorem kk_206 : chkC [kc_175, kc_184, kc_200, kc_205] (mkT kt_206) 3000 kc_206 = true := by decide +kernel
theorem ko_206 {z : Int → Int} (hz : zOK z) : conOK z kc_206 := chk_ok hz (K := [kc_175, kc_184, kc_200, kc_205]) (List.forall_mem_cons.mpr ⟨ko_175 hz, List.forall_mem_cons.mpr ⟨ko_184 hz, List.forall_mem_cons.mpr ⟨ko_200 hz, List.forall_mem_cons.mpr ⟨ko_205 hz, fun _ h => absurd h List.not_mem_nil⟩⟩⟩⟩) kk_206

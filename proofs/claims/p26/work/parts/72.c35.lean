/-! ===== contracts, checked ===== -/
/-- yX4_add -/
def kc_194 : Con := (51, [(2, none, 92, 0, 1), (2, none, 45, 1, 7), (2, none, 45, 1, 7)], [], [], [], [(92, 4, 4), (93, 0, 27), (94, 0, 27)], [(none, [], [], [])])
def kt_194 : List (Nat × Nat × LpT) := []
set_option maxRecDepth 1000000 in
theorem kk_194 : chkC [kc_177, kc_179, kc_178, kc_176] (mkT kt_194) 3000 kc_194 = true := by decide +kernel
theorem ko_194 {z : Int → Int} (hz : zOK z) : conOK z kc_194 := chk_ok hz (K := [kc_177, kc_179, kc_178, kc_176]) (List.forall_mem_cons.mpr ⟨ko_177 hz, List.forall_mem_cons.mpr ⟨ko_179 hz, List.forall_mem_cons.mpr ⟨ko_178 hz, List.forall_mem_cons.mpr ⟨ko_176 hz, fun _ h => absurd h List.not_mem_nil⟩⟩⟩⟩) kk_194
/-- yX4_add -/
def kc_195 : Con := (51, [(2, none, 97, 0, 1), (2, none, 45, 1, 7), (2, none, 45, 1, 7)], [], [], [], [(97, 4, 4), (98, 0, 27), (99, 0, 27)], [(none, [], [], [])])
def kt_195 : List (Nat × Nat × LpT) := []
set_option maxRecDepth 1000000 in
theorem kk_195 : chkC [kc_177, kc_179, kc_178, kc_176] (mkT kt_195) 3000 kc_195 = true := by decide +kernel
theorem ko_195 {z : Int → Int} (hz : zOK z) : conOK z kc_195 := chk_ok hz (K := [kc_177, kc_179, kc_178, kc_176]) (List.forall_mem_cons.mpr ⟨ko_177 hz, List.forall_mem_cons.mpr ⟨ko_179 hz, List.forall_mem_cons.mpr ⟨ko_178 hz, List.forall_mem_cons.mpr ⟨ko_176 hz, fun _ h => absurd h List.not_mem_nil⟩⟩⟩⟩) kk_195
/-- yX4_add -/
def kc_196 : Con := (51, [(2, none, 102, 0, 1), (2, none, 45, 1, 7), (2, none, 45, 1, 7)], [], [], [], [(102, 4, 4), (103, 0, 27), (104, 0, 27)], [(none, [], [], [])])
def kt_196 : List (Nat × Nat × LpT) := []
set_option maxRecDepth 1000000 in
theorem kk_196 : chkC [kc_177, kc_179, kc_178, kc_176] (mkT kt_196) 3000 kc_196 = true := by decide +kernel
theorem ko_196 {z : Int → Int} (hz : zOK z) : conOK z kc_196 := chk_ok hz (K := [kc_177, kc_179, kc_178, kc_176]) (List.forall_mem_cons.mpr ⟨ko_177 hz, List.forall_mem_cons.mpr ⟨ko_179 hz, List.forall_mem_cons.mpr ⟨ko_178 hz, List.forall_mem_cons.mpr ⟨ko_176 hz, fun _ h => absurd h List.not_mem_nil⟩⟩⟩⟩) kk_196
/-- yX4_add -/
def kc_197 : Con := (51, [(2, none, 107, 0, 1), (2, none, 45, 1, 7), (2, none, 45, 1, 7)], [], [], [], [(107, 4, 4), (108, 0, 27), (109, 0, 27)], [(none, [], [], [])])
def kt_197 : List (Nat × Nat × LpT) := []
set_option maxRecDepth 1000000 in
theorem kk_197 : chkC [kc_177, kc_179, kc_178, kc_176] (mkT kt_197) 3000 kc_197 = true := by decide +kernel
theorem ko_197 {z : Int → Int} (hz : zOK z) : conOK z kc_197 := chk_ok hz (K := [kc_177, kc_179, kc_178, kc_176]) (List.forall_mem_cons.mpr ⟨ko_177 hz, List.forall_mem_cons.mpr ⟨ko_179 hz, List.forall_mem_cons.mpr ⟨ko_178 hz, List.forall_mem_cons.mpr ⟨ko_176 hz, fun _ h => absurd h List.not_mem_nil⟩⟩⟩⟩) kk_197
/-- yX4_add -/
def kc_198 : Con := (51, [(2, none, 112, 0, 1), (2, none, 45, 1, 7), (2, none, 45, 1, 7)], [], [], [], [(112, 4, 4), (113, 0, 27), (114, 0, 27)], [(none, [], [], [])])
def kt_198 : List (Nat × Nat × LpT) := []
set_option maxRecDepth 1000000 in
theorem kk_198 : chkC [kc_177, kc_179, kc_178, kc_176] (mkT kt_198) 3000 kc_198 = true := by decide +kernel
theorem ko_198 {z : Int → Int} (hz : zOK z) : conOK z kc_198 := chk_ok hz (K := [kc_177, kc_179, kc_178, kc_176]) (List.forall_mem_cons.mpr ⟨ko_177 hz, List.forall_mem_cons.mpr ⟨ko_179 hz, List.forall_mem_cons.mpr ⟨ko_178 hz, List.forall_mem_cons.mpr ⟨ko_176 hz, fun _ h => absurd h List.not_mem_nil⟩⟩⟩⟩) kk_198
/-- yX0_outline -/
def kc_199 : Con := (5, [(2, none, 52, 0, 1), (0, (some (0, 6)), 0, 0, 0)], [(13317, (some (35, 35)))], [], [], [(82, 4, 5), (83, 0, 27), (84, 0, 27), (85, 0, 27), (86, 0, 27), (87, 4, 5), (88, 0, 27), (89, 0, 27), (90, 0, 27), (91, 0, 27), (92, 4, 5), (93, 0, 27), (94, 0, 27), (95, 0, 27), (96, 0, 27), (97, 4, 5), (98, 0, 27), (99, 0, 27), (100, 0, 27), (101, 0, 27), (102, 4, 5), (103, 0, 27), (104, 0, 27), (105, 0, 27), (106, 0, 27), (107, 4, 5), (108, 0, 27), (109, 0, 27), (110, 0, 27), (111, 0, 27), (112, 4, 5), (113, 0, 27), (114, 0, 27), (115, 0, 27), (116, 0, 27)], [(none, [], [], [])])
def kt_199 : List (Nat × Nat × LpT) := [(5, 37, ([(4, 0, (some (0, 7)))], [], [20996, 22276, 23556, 24836, 26116, 27396, 28676], [], [], [], ([((0, 4), (-1))], 8), []))]
set_option maxRecDepth 1000000 in
theorem kk_199 : chkS [kc_191, kc_43, kc_192, kc_115, kc_193, kc_118, kc_194, kc_121, kc_195, kc_124, kc_196, kc_127, kc_197, kc_130, kc_198, kc_133] (mkT kt_199) 3000 1 kc_199 = true := by decide +kernel
theorem ko_199 {z : Int → Int} (hz : zOK z) : conOK z kc_199 := chkS_ok hz (K := [kc_191, kc_43, kc_192, kc_115, kc_193, kc_118, kc_194, kc_121, kc_195, kc_124, kc_196, kc_127, kc_197, kc_130, kc_198, kc_133]) (List.forall_mem_cons.mpr ⟨ko_191 hz, List.forall_mem_cons.mpr ⟨ko_43 hz, List.forall_mem_cons.mpr ⟨ko_192 hz, List.forall_mem_cons.mpr ⟨ko_115 hz, List.forall_mem_cons.mpr ⟨ko_193 hz, List.forall_mem_cons.mpr ⟨ko_118 hz, List.forall_mem_cons.mpr ⟨ko_194 hz, List.forall_mem_cons.mpr ⟨ko_121 hz, List.forall_mem_cons.mpr ⟨ko_195 hz, List.forall_mem_cons.mpr ⟨ko_124 hz, List.forall_mem_cons.mpr ⟨ko_196 hz, List.forall_mem_cons.mpr ⟨ko_127 hz, List.forall_mem_cons.mpr ⟨ko_197 hz, List.forall_mem_cons.mpr ⟨ko_130 hz, List.forall_mem_cons.mpr ⟨ko_198 hz, List.forall_mem_cons.mpr ⟨ko_133 hz, fun _ h => absurd h List.not_mem_nil⟩⟩⟩⟩⟩⟩⟩⟩⟩⟩⟩⟩⟩⟩⟩⟩) kk_199

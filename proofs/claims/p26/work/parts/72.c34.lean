/-! ===== contracts, checked ===== -/
/-- yX7_without -/
def kc_172 : Con := (102, [(2, none, 0, 0, 1), (0, (some ((-2147483648), 2147483647)), 0, 0, 0)], [], [], [], [(52, 5, 6), (53, 0, 6), (55, 0, 6), (56, 0, 6), (57, 0, 6), (58, 0, 6), (59, 0, 6), (60, 0, 6), (61, 0, 6), (62, 0, 6), (63, 0, 6), (82, 4, 5), (83, 0, 27), (84, 0, 27), (85, 0, 27), (86, 0, 27), (87, 4, 5), (88, 0, 27), (89, 0, 27), (90, 0, 27), (91, 0, 27), (92, 4, 5), (93, 0, 27), (94, 0, 27), (95, 0, 27), (96, 0, 27), (97, 4, 5), (98, 0, 27), (99, 0, 27), (100, 0, 27), (101, 0, 27), (102, 4, 5), (103, 0, 27), (104, 0, 27), (105, 0, 27), (106, 0, 27), (107, 4, 5), (108, 0, 27), (109, 0, 27), (110, 0, 27), (111, 0, 27), (112, 4, 5), (113, 0, 27), (114, 0, 27), (115, 0, 27), (116, 0, 27)], [((some (0, (some ((-100), 127)))), [], [], [])])
def kt_172 : List (Nat × Nat × LpT) := []
set_option maxRecDepth 1000000 in
theorem kk_172 : chkC [kc_0, kc_135, kc_154] (mkT kt_172) 3000 kc_172 = true := by decide +kernel
theorem ko_172 {z : Int → Int} (hz : zOK z) : conOK z kc_172 := chk_ok hz (K := [kc_0, kc_135, kc_154]) (List.forall_mem_cons.mpr ⟨ko_0 hz, List.forall_mem_cons.mpr ⟨ko_135 hz, List.forall_mem_cons.mpr ⟨ko_154 hz, fun _ h => absurd h List.not_mem_nil⟩⟩⟩) kk_172
/-- yX8_without -/
def kc_173 : Con := (187, [(2, none, 213, 0, 1), (0, (some ((-2147483648), 2147483647)), 0, 0, 0)], [], [], [], [(213, 9, 14), (216, 0, 7), (217, 0, 63), (218, 0, 31), (219, 0, 31), (220, 0, 62), (221, 0, 62)], [((some (0, (some ((-100), 127)))), [], [], [])])
def kt_173 : List (Nat × Nat × LpT) := []
set_option maxRecDepth 1000000 in
theorem kk_173 : chkC [kc_11, kc_98] (mkT kt_173) 3000 kc_173 = true := by decide +kernel
theorem ko_173 {z : Int → Int} (hz : zOK z) : conOK z kc_173 := chk_ok hz (K := [kc_11, kc_98]) (List.forall_mem_cons.mpr ⟨ko_11 hz, List.forall_mem_cons.mpr ⟨ko_98 hz, fun _ h => absurd h List.not_mem_nil⟩⟩) kk_173
/-- yX1_become -/
def kc_174 : Con := (30, [(2, none, 45, 1, 7), (2, none, 11, 1, 7)], [], [], [], [(45, 0, 8), (46, 0, 8), (47, 0, 8), (48, 0, 8), (49, 0, 8), (50, 0, 8), (51, 0, 8)], [(none, [], [], [])])
def kt_174 : List (Nat × Nat × LpT) := []
set_option maxRecDepth 1000000 in
theorem kk_174 : chkC [] (mkT kt_174) 3000 kc_174 = true := by decide +kernel
theorem ko_174 {z : Int → Int} (hz : zOK z) : conOK z kc_174 := chk_ok hz (K := []) (fun _ h => absurd h List.not_mem_nil) kk_174
/-- yX3_become -/
def kc_175 : Con := (46, [(2, none, 35, 0, 1), (2, none, 1, 0, 1)], [], [], [], [(35, 2, 3), (38, 0, 6), (39, 0, 6), (40, 0, 6), (41, 0, 6), (42, 0, 6), (43, 0, 6), (44, 0, 6), (45, 0, 8), (46, 0, 8), (47, 0, 8), (48, 0, 8), (49, 0, 8), (50, 0, 8), (51, 0, 8)], [(none, [], [], [])])
def kt_175 : List (Nat × Nat × LpT) := [(46, 2, ([(2, 0, (some (0, 7)))], [], [], [], [], [], ([((0, 2), (-1))], 8), []))]
set_option maxRecDepth 1000000 in
theorem kk_175 : chkC [kc_174] (mkT kt_175) 3000 kc_175 = true := by decide +kernel
theorem ko_175 {z : Int → Int} (hz : zOK z) : conOK z kc_175 := chk_ok hz (K := [kc_174]) (List.forall_mem_cons.mpr ⟨ko_174 hz, fun _ h => absurd h List.not_mem_nil⟩) kk_175
/-- yX1_right -/
def kc_176 : Con := (15, [(2, none, 45, 1, 7), (2, none, 45, 1, 7)], [], [], [], [], [((some (0, (some (0, 12)))), [], [], [])])
def kt_176 : List (Nat × Nat × LpT) := []
set_option maxRecDepth 1000000 in
theorem kk_176 : chkC [] (mkT kt_176) 3000 kc_176 = true := by decide +kernel
theorem ko_176 {z : Int → Int} (hz : zOK z) : conOK z kc_176 := chk_ok hz (K := []) (fun _ h => absurd h List.not_mem_nil) kk_176
/-- yX1_left -/
def kc_177 : Con := (16, [(2, none, 45, 1, 7), (2, none, 45, 1, 7)], [], [], [], [], [((some (0, (some (0, 8)))), [], [], [])])
def kt_177 : List (Nat × Nat × LpT) := []
set_option maxRecDepth 1000000 in
theorem kk_177 : chkC [] (mkT kt_177) 3000 kc_177 = true := by decide +kernel
theorem ko_177 {z : Int → Int} (hz : zOK z) : conOK z kc_177 := chk_ok hz (K := []) (fun _ h => absurd h List.not_mem_nil) kk_177
/-- yX1_far -/
def kc_178 : Con := (17, [(2, none, 45, 1, 7), (2, none, 45, 1, 7)], [], [], [], [], [((some (0, (some (0, 12)))), [], [], [])])
def kt_178 : List (Nat × Nat × LpT) := []
set_option maxRecDepth 1000000 in
theorem kk_178 : chkC [] (mkT kt_178) 3000 kc_178 = true := by decide +kernel
theorem ko_178 {z : Int → Int} (hz : zOK z) : conOK z kc_178 := chk_ok hz (K := []) (fun _ h => absurd h List.not_mem_nil) kk_178
/-- yX1_near -/
def kc_179 : Con := (18, [(2, none, 45, 1, 7), (2, none, 45, 1, 7)], [], [], [], [], [((some (0, (some (0, 8)))), [], [], [])])
def kt_179 : List (Nat × Nat × LpT) := []
set_option maxRecDepth 1000000 in
theorem kk_179 : chkC [] (mkT kt_179) 3000 kc_179 = true := by decide +kernel
theorem ko_179 {z : Int → Int} (hz : zOK z) : conOK z kc_179 := chk_ok hz (K := []) (fun _ h => absurd h List.not_mem_nil) kk_179
/-- yX1_areaWith -/
def kc_180 : Con := (14, [(2, none, 45, 1, 7), (2, none, 45, 1, 7)], [], [], [], [], [((some (0, (some (0, 144)))), [], [], [])])
def kt_180 : List (Nat × Nat × LpT) := []
set_option maxRecDepth 1000000 in
theorem kk_180 : chkC [kc_176, kc_177, kc_178, kc_179] (mkT kt_180) 3000 kc_180 = true := by decide +kernel
theorem ko_180 {z : Int → Int} (hz : zOK z) : conOK z kc_180 := chk_ok hz (K := [kc_176, kc_177, kc_178, kc_179]) (List.forall_mem_cons.mpr ⟨ko_176 hz, List.forall_mem_cons.mpr ⟨ko_177 hz, List.forall_mem_cons.mpr ⟨ko_178 hz, List.forall_mem_cons.mpr ⟨ko_179 hz, fun _ h => absurd h List.not_mem_nil⟩⟩⟩⟩) kk_180
/-- yX1_top -/
def kc_181 : Con := (19, [(2, none, 45, 1, 7)], [], [], [], [], [((some (0, none)), [], [], [])])
def kt_181 : List (Nat × Nat × LpT) := []
set_option maxRecDepth 1000000 in
theorem kk_181 : chkC [] (mkT kt_181) 3000 kc_181 = true := by decide +kernel
theorem ko_181 {z : Int → Int} (hz : zOK z) : conOK z kc_181 := chk_ok hz (K := []) (fun _ h => absurd h List.not_mem_nil) kk_181
/-- yX3_greatestTopUnder -/
def kc_182 : Con := (39, [(2, none, 35, 0, 1), (2, none, 45, 1, 7)], [], [], [], [], [((some (0, none)), [], [], [])])
def kt_182 : List (Nat × Nat × LpT) := [(39, 4, ([(2, 0, none), (3, 0, (some (0, 7)))], [], [], [], [], [], ([((0, 3), (-1))], 8), []))]
set_option maxRecDepth 1000000 in
theorem kk_182 : chkC [kc_0, kc_180, kc_181] (mkT kt_182) 3000 kc_182 = true := by decide +kernel
theorem ko_182 {z : Int → Int} (hz : zOK z) : conOK z kc_182 := chk_ok hz (K := [kc_0, kc_180, kc_181]) (List.forall_mem_cons.mpr ⟨ko_0 hz, List.forall_mem_cons.mpr ⟨ko_180 hz, List.forall_mem_cons.mpr ⟨ko_181 hz, fun _ h => absurd h List.not_mem_nil⟩⟩⟩) kk_182
/-- yX3_noteContacts -/
def kc_183 : Con := (40, [(2, none, 35, 0, 1), (0, (some (0, 6)), 0, 0, 0)], [], [], [], [(38, 0, 6), (39, 0, 6), (40, 0, 6), (41, 0, 6), (42, 0, 6), (43, 0, 6), (44, 0, 6)], [(none, [], [], [])])
def kt_183 : List (Nat × Nat × LpT) := [(40, 2, ([(2, 0, (some (0, 7)))], [], [], [], [], [], ([((0, 2), (-1))], 8), []))]
set_option maxRecDepth 1000000 in
theorem kk_183 : chkC [kc_181, kc_180] (mkT kt_183) 3000 kc_183 = true := by decide +kernel
theorem ko_183 {z : Int → Int} (hz : zOK z) : conOK z kc_183 := chk_ok hz (K := [kc_181, kc_180]) (List.forall_mem_cons.mpr ⟨ko_181 hz, List.forall_mem_cons.mpr ⟨ko_180 hz, fun _ h => absurd h List.not_mem_nil⟩⟩) kk_183
/-- yX3_receive -/
def kc_184 : Con := (38, [(2, none, 35, 0, 1), (0, (some ((-2147483648), 2147483647)), 0, 0, 0), (0, (some ((-2147483648), 2147483647)), 0, 0, 0), (0, (some ((-2147483648), 2147483647)), 0, 0, 0), (0, (some ((-2147483648), 2147483647)), 0, 0, 0), (0, (some ((-2147483648), 2147483647)), 0, 0, 0)], [], [], [], [(35, 2, 3), (38, 0, 6), (39, 0, 6), (40, 0, 6), (41, 0, 6), (42, 0, 6), (43, 0, 6), (44, 0, 6), (45, 0, 8), (46, 0, 8), (47, 0, 8), (48, 0, 8), (49, 0, 8), (50, 0, 8), (51, 0, 8)], [((some (0, (some ((-100), 6)))), [], [], [])])
def kt_184 : List (Nat × Nat × LpT) := []
set_option maxRecDepth 1000000 in
theorem kk_184 : chkC [kc_182, kc_181, kc_183] (mkT kt_184) 3000 kc_184 = true := by decide +kernel
theorem ko_184 {z : Int → Int} (hz : zOK z) : conOK z kc_184 := chk_ok hz (K := [kc_182, kc_181, kc_183]) (List.forall_mem_cons.mpr ⟨ko_182 hz, List.forall_mem_cons.mpr ⟨ko_181 hz, List.forall_mem_cons.mpr ⟨ko_183 hz, fun _ h => absurd h List.not_mem_nil⟩⟩⟩) kk_184
/-- yX1_ownCentreX -/
def kc_185 : Con := (26, [(2, none, 45, 1, 7)], [], [], [], [], [((some (0, (some ((-100), 444)))), [], [], [])])
def kt_185 : List (Nat × Nat × LpT) := []
set_option maxRecDepth 1000000 in
theorem kk_185 : chkC [] (mkT kt_185) 3000 kc_185 = true := by decide +kernel
theorem ko_185 {z : Int → Int} (hz : zOK z) : conOK z kc_185 := chk_ok hz (K := []) (fun _ h => absurd h List.not_mem_nil) kk_185
/-- yX1_ownCentreY -/
def kc_186 : Con := (27, [(2, none, 45, 1, 7)], [], [], [], [], [((some (0, (some (0, 444)))), [], [], [])])
def kt_186 : List (Nat × Nat × LpT) := []
set_option maxRecDepth 1000000 in
theorem kk_186 : chkC [] (mkT kt_186) 3000 kc_186 = true := by decide +kernel
theorem ko_186 {z : Int → Int} (hz : zOK z) : conOK z kc_186 := chk_ok hz (K := []) (fun _ h => absurd h List.not_mem_nil) kk_186
/-- yX3_below -/
def kc_187 : Con := (45, [(2, none, 35, 0, 1), (0, (some (0, 6)), 0, 0, 0), (0, none, 0, 0, 0)], [], [], [], [], [((some (0, (some (0, 127)))), [], [], [])])
def kt_187 : List (Nat × Nat × LpT) := [(45, 5, ([(3, 0, (some (0, 127))), (4, 0, (some (0, 7)))], [], [], [], [], [], ([((0, 4), (-1))], 8), []))]
set_option maxRecDepth 1000000 in
theorem kk_187 : chkC [kc_43] (mkT kt_187) 3000 kc_187 = true := by decide +kernel
theorem ko_187 {z : Int → Int} (hz : zOK z) : conOK z kc_187 := chk_ok hz (K := [kc_43]) (List.forall_mem_cons.mpr ⟨ko_43 hz, fun _ h => absurd h List.not_mem_nil⟩) kk_187
/-- yX0_heft -/
def kc_188 : Con := (3, [(2, none, 52, 0, 1), (0, (some (0, 6)), 0, 0, 0)], [(13317, (some (35, 35)))], [], [], [], [((some (0, none)), [], [], [])])
def kt_188 : List (Nat × Nat × LpT) := []
set_option maxRecDepth 1000000 in
theorem kk_188 : chkC [] (mkT kt_188) 3000 kc_188 = true := by decide +kernel
theorem ko_188 {z : Int → Int} (hz : zOK z) : conOK z kc_188 := chk_ok hz (K := []) (fun _ h => absurd h List.not_mem_nil) kk_188
/-- yX0_takeOn -/
def kc_189 : Con := (4, [(2, none, 52, 0, 1), (0, (some (0, 6)), 0, 0, 0), (0, (some (0, 6)), 0, 0, 0)], [(13317, (some (35, 35)))], [], [], [(53, 0, 6), (62, 0, 6), (63, 0, 6)], [(none, [], [], [])])
def kt_189 : List (Nat × Nat × LpT) := []
set_option maxRecDepth 1000000 in
theorem kk_189 : chkC [kc_177, kc_176, kc_179, kc_178] (mkT kt_189) 3000 kc_189 = true := by decide +kernel
theorem ko_189 {z : Int → Int} (hz : zOK z) : conOK z kc_189 := chk_ok hz (K := [kc_177, kc_176, kc_179, kc_178]) (List.forall_mem_cons.mpr ⟨ko_177 hz, List.forall_mem_cons.mpr ⟨ko_176 hz, List.forall_mem_cons.mpr ⟨ko_179 hz, List.forall_mem_cons.mpr ⟨ko_178 hz, fun _ h => absurd h List.not_mem_nil⟩⟩⟩⟩) kk_189
/-- yX0_handDown -/
def kc_190 : Con := (2, [(2, none, 52, 0, 1), (0, (some (0, 6)), 0, 0, 0)], [(13317, (some (35, 35)))], [], [], [(53, 0, 6), (55, 0, 6), (56, 0, 6), (57, 0, 6), (58, 0, 6), (59, 0, 6), (60, 0, 6), (61, 0, 6), (62, 0, 6), (63, 0, 6)], [(none, [], [], [])])
def kt_190 : List (Nat × Nat × LpT) := [(2, 29, ([(4, 0, (some (0, 1008))), (5, 0, (some (0, 7)))], [], [], [], [(([((0, 5), 144), ((0, 4), (-1))], 0), 0, 2000)], [], ([((0, 5), (-1))], 8), [])), (2, 76, ([(5, 0, none), (6, 0, (some (0, 7)))], [], [], [], [], [], ([((0, 6), (-1))], 8), [])), (2, 140, ([(5, 0, none), (6, 0, (some (0, 7)))], [], [], [], [], [], ([((0, 6), (-1))], 8), []))]
set_option maxRecDepth 1000000 in
theorem kk_190 : chkC [kc_187, kc_0, kc_188, kc_189] (mkT kt_190) 3000 kc_190 = true := by decide +kernel
theorem ko_190 {z : Int → Int} (hz : zOK z) : conOK z kc_190 := chk_ok hz (K := [kc_187, kc_0, kc_188, kc_189]) (List.forall_mem_cons.mpr ⟨ko_187 hz, List.forall_mem_cons.mpr ⟨ko_0 hz, List.forall_mem_cons.mpr ⟨ko_188 hz, List.forall_mem_cons.mpr ⟨ko_189 hz, fun _ h => absurd h List.not_mem_nil⟩⟩⟩⟩) kk_190
/-- yX1_isOnFloor -/
def kc_191 : Con := (28, [(2, none, 45, 1, 7)], [], [], [], [], [((some (0, (some (0, 1)))), [], [], [])])
def kt_191 : List (Nat × Nat × LpT) := []
set_option maxRecDepth 1000000 in
theorem kk_191 : chkC [] (mkT kt_191) 3000 kc_191 = true := by decide +kernel
theorem ko_191 {z : Int → Int} (hz : zOK z) : conOK z kc_191 := chk_ok hz (K := []) (fun _ h => absurd h List.not_mem_nil) kk_191
/-- yX4_add -/
def kc_192 : Con := (51, [(2, none, 82, 0, 1), (2, none, 45, 1, 7), (2, none, 45, 1, 7)], [], [], [], [(82, 4, 4), (83, 0, 27), (84, 0, 27)], [(none, [], [], [])])
def kt_192 : List (Nat × Nat × LpT) := []
set_option maxRecDepth 1000000 in
theorem kk_192 : chkC [kc_177, kc_179, kc_178, kc_176] (mkT kt_192) 3000 kc_192 = true := by decide +kernel
theorem ko_192 {z : Int → Int} (hz : zOK z) : conOK z kc_192 := chk_ok hz (K := [kc_177, kc_179, kc_178, kc_176]) (List.forall_mem_cons.mpr ⟨ko_177 hz, List.forall_mem_cons.mpr ⟨ko_179 hz, List.forall_mem_cons.mpr ⟨ko_178 hz, List.forall_mem_cons.mpr ⟨ko_176 hz, fun _ h => absurd h List.not_mem_nil⟩⟩⟩⟩) kk_192
/-- yX4_add -/
def kc_193 : Con := (51, [(2, none, 87, 0, 1), (2, none, 45, 1, 7), (2, none, 45, 1, 7)], [], [], [], [(87, 4, 4), (88, 0, 27), (89, 0, 27)], [(none, [], [], [])])
def kt_193 : List (Nat × Nat × LpT) := []
set_option maxRecDepth 1000000 in
theorem kk_193 : chkC [kc_177, kc_179, kc_178, kc_176] (mkT kt_193) 3000 kc_193 = true := by decide +kernel
theorem ko_193 {z : Int → Int} (hz : zOK z) : conOK z kc_193 := chk_ok hz (K := [kc_177, kc_179, kc_178, kc_176]) (List.forall_mem_cons.mpr ⟨ko_177 hz, List.forall_mem_cons.mpr ⟨ko_179 hz, List.forall_mem_cons.mpr ⟨ko_178 hz, List.forall_mem_cons.mpr ⟨ko_176 hz, fun _ h => absurd h List.not_mem_nil⟩⟩⟩⟩) kk_193

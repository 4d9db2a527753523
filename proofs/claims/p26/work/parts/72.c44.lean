/-! ===== contracts, checked ===== -/
/-- yX6_append -/
def kc_219 : Con := (60, [(2, none, 187, 0, 1), (0, (some (0, 255)), 0, 0, 0)], [], [], [], [(187, 1, 1), (188, 0, 59)], [(none, [], [], [])])
def kt_219 : List (Nat × Nat × LpT) := []
set_option maxRecDepth 1000000 in
theorem kk_219 : chkC [] (mkT kt_219) 3000 kc_219 = true := by decide +kernel
theorem ko_219 {z : Int → Int} (hz : zOK z) : conOK z kc_219 := chk_ok hz (K := []) (fun _ h => absurd h List.not_mem_nil) kk_219
/-- yX7_feed -/
def kc_220 : Con := (109, [(2, none, 0, 0, 1), (0, (some ((-2147483648), 2147483647)), 0, 0, 0), (0, (some ((-2147483648), 2147483647)), 0, 0, 0), (0, (some ((-2147483648), 2147483647)), 0, 0, 0), (0, (some ((-2147483648), 2147483647)), 0, 0, 0), (0, (some ((-2147483648), 2147483647)), 0, 0, 0), (0, (some ((-2147483648), 2147483647)), 0, 0, 0)], [], [], [], [(187, 1, 1), (188, 0, 59)], [((some (0, (some ((-100), 60)))), [], [], [])])
def kt_220 : List (Nat × Nat × LpT) := []
set_option maxRecDepth 1000000 in
theorem kk_220 : chkC [kc_219] (mkT kt_220) 3000 kc_220 = true := by decide +kernel
theorem ko_220 {z : Int → Int} (hz : zOK z) : conOK z kc_220 := chk_ok hz (K := [kc_219]) (List.forall_mem_cons.mpr ⟨ko_219 hz, fun _ h => absurd h List.not_mem_nil⟩) kk_220
/-- yX8_feed -/
def kc_221 : Con := (193, [(2, none, 213, 0, 1), (0, (some ((-2147483648), 2147483647)), 0, 0, 0), (0, (some ((-2147483648), 2147483647)), 0, 0, 0), (0, (some ((-2147483648), 2147483647)), 0, 0, 0), (0, (some ((-2147483648), 2147483647)), 0, 0, 0), (0, (some ((-2147483648), 2147483647)), 0, 0, 0), (0, (some ((-2147483648), 2147483647)), 0, 0, 0)], [], [], [], [(213, 22, 22), (224, 0, 59)], [((some (0, (some ((-100), 60)))), [], [], [])])
def kt_221 : List (Nat × Nat × LpT) := [(193, 87, ([(7, 0, (some (0, 5)))], [], [], [], [], [], ([((0, 7), (-1))], 6), []))]
set_option maxRecDepth 1000000 in
theorem kk_221 : chkC [] (mkT kt_221) 3000 kc_221 = true := by decide +kernel
theorem ko_221 {z : Int → Int} (hz : zOK z) : conOK z kc_221 := chk_ok hz (K := []) (fun _ h => absurd h List.not_mem_nil) kk_221
/-- yX6_isWord -/
def kc_224 : Con := (66, [(2, none, 187, 0, 1), (2, none, 1010, 0, 1)], [], [], [], [], [((some (0, (some (0, 1)))), [], [], [])])
def kt_224 : List (Nat × Nat × LpT) := []
set_option maxRecDepth 1000000 in
theorem kk_224 : chkC [kc_222, kc_223] (mkT kt_224) 3000 kc_224 = true := by decide +kernel
theorem ko_224 {z : Int → Int} (hz : zOK z) : conOK z kc_224 := chk_ok hz (K := [kc_222, kc_223]) (List.forall_mem_cons.mpr ⟨ko_222 hz, List.forall_mem_cons.mpr ⟨ko_223 hz, fun _ h => absurd h List.not_mem_nil⟩⟩) kk_224
/-- yX6_isWord -/
def kc_227 : Con := (66, [(2, none, 187, 0, 1), (2, none, 1011, 0, 1)], [], [], [], [], [((some (0, (some (0, 1)))), [], [], [])])
def kt_227 : List (Nat × Nat × LpT) := []
set_option maxRecDepth 1000000 in
theorem kk_227 : chkC [kc_225, kc_226] (mkT kt_227) 3000 kc_227 = true := by decide +kernel
theorem ko_227 {z : Int → Int} (hz : zOK z) : conOK z kc_227 := chk_ok hz (K := [kc_225, kc_226]) (List.forall_mem_cons.mpr ⟨ko_225 hz, List.forall_mem_cons.mpr ⟨ko_226 hz, fun _ h => absurd h List.not_mem_nil⟩⟩) kk_227
/-- yX6_isWord -/
def kc_230 : Con := (66, [(2, none, 187, 0, 1), (2, none, 1012, 0, 1)], [], [], [], [], [((some (0, (some (0, 1)))), [], [], [])])
def kt_230 : List (Nat × Nat × LpT) := []
set_option maxRecDepth 1000000 in
theorem kk_230 : chkC [kc_228, kc_229] (mkT kt_230) 3000 kc_230 = true := by decide +kernel
theorem ko_230 {z : Int → Int} (hz : zOK z) : conOK z kc_230 := chk_ok hz (K := [kc_228, kc_229]) (List.forall_mem_cons.mpr ⟨ko_228 hz, List.forall_mem_cons.mpr ⟨ko_229 hz, fun _ h => absurd h List.not_mem_nil⟩⟩) kk_230
/-- yX6_isWord -/
def kc_233 : Con := (66, [(2, none, 187, 0, 1), (2, none, 1013, 0, 1)], [], [], [], [], [((some (0, (some (0, 1)))), [], [], [])])
def kt_233 : List (Nat × Nat × LpT) := []
set_option maxRecDepth 1000000 in
theorem kk_233 : chkC [kc_231, kc_232] (mkT kt_233) 3000 kc_233 = true := by decide +kernel
theorem ko_233 {z : Int → Int} (hz : zOK z) : conOK z kc_233 := chk_ok hz (K := [kc_231, kc_232]) (List.forall_mem_cons.mpr ⟨ko_231 hz, List.forall_mem_cons.mpr ⟨ko_232 hz, fun _ h => absurd h List.not_mem_nil⟩⟩) kk_233
/-- yX6_step -/
def kc_234 : Con := (63, [(2, none, 187, 0, 1)], [], [], [], [(187, 5, 8)], [(none, [(47877, .inr ([], 1)), (47879, .inl (some ((-1), 3)))], [], []), (none, [(47877, .inr ([], 2)), (47879, .inl (some ((-2147483648), 2147483647)))], [], []), (none, [(47877, .inr ([], 4))], [], []), (none, [(47877, .inr ([], 3))], [], []), (none, [(47877, .inr ([], 0))], [], [])])
def kt_234 : List (Nat × Nat × LpT) := [(63, 0, ([], [], [], [(47880, (some (0, 60)))], [], [], ([((1, 47873), 1), ((1, 47880), (-1))], 0), [47880, 47873])), (65, 0, ([], [], [], [(47880, (some (0, 60)))], [], [], ([((1, 47873), 1), ((1, 47880), (-1))], 0), [47880, 47873])), (68, 5, ([], [], [], [(47880, (some (0, 60))), (47879, none)], [(([((1, 47880), 1), ((1, 47878), (-1))], 0), 4, 60)], [], ([((1, 47873), 1), ((1, 47880), (-1))], 0), [47880, 47879, 47880, 47878, 47873]))]
set_option maxRecDepth 1000000 in
theorem kk_234 : chkC [kc_224, kc_227, kc_230, kc_233] (mkT kt_234) 3000 kc_234 = true := by decide +kernel
theorem ko_234 {z : Int → Int} (hz : zOK z) : conOK z kc_234 := chk_ok hz (K := [kc_224, kc_227, kc_230, kc_233]) (List.forall_mem_cons.mpr ⟨ko_224 hz, List.forall_mem_cons.mpr ⟨ko_227 hz, List.forall_mem_cons.mpr ⟨ko_230 hz, List.forall_mem_cons.mpr ⟨ko_233 hz, fun _ h => absurd h List.not_mem_nil⟩⟩⟩⟩) kk_234

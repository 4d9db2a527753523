/-! ===== contracts, checked ===== -/
/-- yX7_sheet -/
def kc_273 : Con := (120, [(2, none, 0, 0, 1), (0, (some ((-2147483648), 2147483647)), 0, 0, 0), (0, (some ((-2147483648), 2147483647)), 0, 0, 0), (0, (some ((-2147483648), 2147483647)), 0, 0, 0)], [], [], [], [(205, 1, 2), (206, 0, 39), (207, 1, 2), (208, 0, 39), (209, 1, 2), (210, 0, 39), (211, 1, 2), (212, 0, 39)], [((some (0, (some ((-100), 1)))), [], [], [])])
def kt_273 : List (Nat × Nat × LpT) := []
set_option maxRecDepth 1000000 in
theorem kk_273 : chkC [kc_253] (mkT kt_273) 3000 kc_273 = true := by decide +kernel
theorem ko_273 {z : Int → Int} (hz : zOK z) : conOK z kc_273 := chk_ok hz (K := [kc_253]) (List.forall_mem_cons.mpr ⟨ko_253 hz, fun _ h => absurd h List.not_mem_nil⟩) kk_273
/-- yX8_sheet -/
def kc_274 : Con := (213, [(2, none, 213, 0, 1), (0, (some ((-2147483648), 2147483647)), 0, 0, 0), (0, (some ((-2147483648), 2147483647)), 0, 0, 0), (0, (some ((-2147483648), 2147483647)), 0, 0, 0)], [], [], [], [(228, 0, 3), (229, 0, 3), (230, 0, 159)], [((some (0, (some ((-100), 1)))), [], [], [])])
def kt_274 : List (Nat × Nat × LpT) := [(213, 65, ([(4, 0, (some (0, 40)))], [], [], [], [], [], ([((0, 4), (-1))], 41), []))]
set_option maxRecDepth 1000000 in
theorem kk_274 : chkC [] (mkT kt_274) 3000 kc_274 = true := by decide +kernel
theorem ko_274 {z : Int → Int} (hz : zOK z) : conOK z kc_274 := chk_ok hz (K := []) (fun _ h => absurd h List.not_mem_nil) kk_274
/-- yX7_put -/
def kc_275 : Con := (121, [(2, none, 0, 0, 1), (0, (some ((-2147483648), 2147483647)), 0, 0, 0), (0, (some ((-2147483648), 2147483647)), 0, 0, 0), (0, (some ((-2147483648), 2147483647)), 0, 0, 0)], [], [], [], [(206, 0, 39), (208, 0, 39), (210, 0, 39), (212, 0, 39)], [((some (0, (some ((-100), 1)))), [], [], [])])
def kt_275 : List (Nat × Nat × LpT) := []
set_option maxRecDepth 1000000 in
theorem kk_275 : chkC [] (mkT kt_275) 3000 kc_275 = true := by decide +kernel
theorem ko_275 {z : Int → Int} (hz : zOK z) : conOK z kc_275 := chk_ok hz (K := []) (fun _ h => absurd h List.not_mem_nil) kk_275
/-- yX8_put -/
def kc_276 : Con := (214, [(2, none, 213, 0, 1), (0, (some ((-2147483648), 2147483647)), 0, 0, 0), (0, (some ((-2147483648), 2147483647)), 0, 0, 0), (0, (some ((-2147483648), 2147483647)), 0, 0, 0)], [], [], [], [(230, 0, 159)], [((some (0, (some ((-100), 1)))), [], [], [])])
def kt_276 : List (Nat × Nat × LpT) := []
set_option maxRecDepth 1000000 in
theorem kk_276 : chkC [] (mkT kt_276) 3000 kc_276 = true := by decide +kernel
theorem ko_276 {z : Int → Int} (hz : zOK z) : conOK z kc_276 := chk_ok hz (K := []) (fun _ h => absurd h List.not_mem_nil) kk_276
/-- yX7_copy -/
def kc_277 : Con := (122, [(2, none, 0, 0, 1), (0, (some ((-2147483648), 2147483647)), 0, 0, 0), (0, (some ((-2147483648), 2147483647)), 0, 0, 0), (0, (some ((-2147483648), 2147483647)), 0, 0, 0), (0, (some ((-2147483648), 2147483647)), 0, 0, 0), (0, (some ((-2147483648), 2147483647)), 0, 0, 0)], [], [], [], [(206, 0, 39), (208, 0, 39), (210, 0, 39), (212, 0, 39)], [((some (0, (some ((-100), 40)))), [], [], [])])
def kt_277 : List (Nat × Nat × LpT) := []
set_option maxRecDepth 1000000 in
theorem kk_277 : chkC [] (mkT kt_277) 3000 kc_277 = true := by decide +kernel
theorem ko_277 {z : Int → Int} (hz : zOK z) : conOK z kc_277 := chk_ok hz (K := []) (fun _ h => absurd h List.not_mem_nil) kk_277
/-- yX8_copy -/
def kc_278 : Con := (215, [(2, none, 213, 0, 1), (0, (some ((-2147483648), 2147483647)), 0, 0, 0), (0, (some ((-2147483648), 2147483647)), 0, 0, 0), (0, (some ((-2147483648), 2147483647)), 0, 0, 0), (0, (some ((-2147483648), 2147483647)), 0, 0, 0), (0, (some ((-2147483648), 2147483647)), 0, 0, 0)], [], [], [], [(230, 0, 159), (231, 0, 39)], [((some (0, (some ((-100), 40)))), [], [], [])])
def kt_278 : List (Nat × Nat × LpT) := [(215, 103, ([(6, 0, (some (0, 40)))], [], [], [], [], [], ([((0, 6), (-1))], 41), [])), (215, 140, ([(6, 0, (some (0, 40)))], [], [], [], [], [], ([((0, 6), (-1))], 41), []))]
set_option maxRecDepth 1000000 in
theorem kk_278 : chkC [] (mkT kt_278) 3000 kc_278 = true := by decide +kernel
theorem ko_278 {z : Int → Int} (hz : zOK z) : conOK z kc_278 := chk_ok hz (K := []) (fun _ h => absurd h List.not_mem_nil) kk_278
